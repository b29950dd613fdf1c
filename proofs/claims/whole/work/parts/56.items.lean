/-! an item of a text: what it tells, or where its fault is -/
def numE (n : Nat) (b : Nat → Nat) (lo hx p : Nat) : Except Nat (Nat × Nat) := match nuO n b lo hx p with | none => .error p | some v => .ok (v, tNx n b p)
def stpE (n : Nat) (b : Nat → Nat) (p : Nat) : Except Nat Nat := if tKn n b p = 2 then .ok (tNx n b p) else .error p
def thingS (n : Nat) (b : Nat → Nat) (s : RS) (p : Nat) : Except Nat (RS × Nat) :=
  if 7 ≤ s.1 then .error p else
  match numE n b 0 2 (tNx n b p) with
  | .error q => .error q
  | .ok (bk, p1) => match numE n b 0 3 p1 with
    | .error q => .error q
    | .ok (wa, p2) => match numE n b 0 10 p2 with
      | .error q => .error q
      | .ok (re, p3) => match numE n b 1 10 p3 with
        | .error q => .error q
        | .ok (we, p4) => match stpE n b p4 with
          | .error q => .error q
          | .ok p5 => .ok (addT s bk wa re we, p5)
def fearsS (n : Nat) (b : Nat → Nat) (s : RS) (p : Nat) : Except Nat (RS × Nat) :=
  if 8 ≤ s.2.2.1 then .error p else
  match numE n b 0 s.1 (tNx n b p) with
  | .error q => .error q
  | .ok (a, p1) => match numE n b 0 s.1 p1 with
    | .error q => .error q
    | .ok (c, p2) => if c = a then .error p1 else match stpE n b p2 with
      | .error q => .error q
      | .ok p3 => .ok (addP s a c, p3)
def loO : Nat → Nat | 1 => 1 | _ => 0
def hxO : Nat → Nat | 0 => 2 | 3 => 10 | _ => 21
def onceS (n : Nat) (b : Nat → Nat) (s : RS) (i p : Nat) : Except Nat (RS × Nat) :=
  if s.2.2.2 i = none then (match numE n b (loO i) (hxO i) (tNx n b p) with
  | .error q => .error q
  | .ok (v, p1) => match stpE n b p1 with
    | .error q => .error q
    | .ok p2 => .ok (setO s i v, p2)) else .error p
def itemS (n : Nat) (b : Nat → Nat) (s : RS) (p : Nat) : Except Nat (RS × Nat) :=
  if tKn n b p = 4 then thingS n b s p else if tKn n b p = 5 then fearsS n b s p else if 6 ≤ tKn n b p then onceS n b s (tKn n b p - 6) p else .error p
def allS (n : Nat) (b : Nat → Nat) : Nat → RS → Nat → Nat → Except Nat (RS × Nat)
  | 0, s, _, k => .ok (s, k)
  | f + 1, s, p, k => if tKn n b p = 0 then .ok (s, k) else match itemS n b s p with
    | .error q => .error q
    | .ok (s', p') => allS n b f s' p' (k + 1)
def readS (n : Nat) (b : Nat → Nat) : Except Nat (RS × Nat) := allS n b 200 rs0 (psT n b 0) 0
theorem NumR.cs {n lo hx a v a2 : Nat} {b : Nat → Nat} {f2 : Option Nat} (h : NumR n b lo hx a none v a2 f2) : (f2 = none ∧ numE n b lo hx (psT n b a) = .ok (v, psT n b a2) ∧ lo ≤ v ∧ v < hx) ∨ (∃ q, f2 = some q ∧ numE n b lo hx (psT n b a) = .error q) := by
  rcases h with ⟨h1, h2, h3⟩ | ⟨h1, h2, h3, h4⟩
  · refine Or.inl ⟨h3, ?_, (nuO_some.mp h1).2.2⟩
    unfold numE
    rw [h1, h2]
    rfl
  · refine Or.inr ⟨psT n b a, h4, ?_⟩
    unfold numE
    rw [h1]
theorem NumR.st {n lo hx a v a2 q : Nat} {b : Nat → Nat} {f2 : Option Nat} (h : NumR n b lo hx a (some q) v a2 f2) : f2 = some q := by
  rcases h with ⟨h1, h2, h3⟩ | ⟨h1, h2, h3, h4⟩
  · exact h3
  · exact h4
theorem StpR.cs {n a a2 : Nat} {b : Nat → Nat} {f2 : Option Nat} (h : StpR n b a none a2 f2) : (f2 = none ∧ stpE n b (psT n b a) = .ok (psT n b a2)) ∨ (∃ q, f2 = some q ∧ stpE n b (psT n b a) = .error q) := by
  rcases h with ⟨h1, h2, h3⟩ | ⟨h1, h2, h3⟩
  · refine Or.inl ⟨h3, ?_⟩
    unfold stpE
    rw [if_pos h1, h2]
    rfl
  · refine Or.inr ⟨psT n b a, h3, ?_⟩
    unfold stpE
    rw [if_neg h1]
theorem StpR.st {n a a2 q : Nat} {b : Nat → Nat} {f2 : Option Nat} (h : StpR n b a (some q) a2 f2) : f2 = some q := by
  rcases h with ⟨h1, h2, h3⟩ | ⟨h1, h2, h3⟩
  · exact h3
  · exact h3
theorem NumR.le {n lo hx a v a2 : Nat} {b : Nat → Nat} {f f2 : Option Nat} (h : NumR n b lo hx a f v a2 f2) (hl : lo < hx ∨ lo = 0) : a ≤ a2 ∧ (v < hx ∨ v = 0) ∧ v ≤ max lo hx := by
  rcases h with ⟨h1, h2, h3⟩ | ⟨h1, h2, h3, h4⟩
  · have := (nuO_some.mp h1).2.2; omega
  · omega
theorem StpR.le {n a a2 : Nat} {b : Nat → Nat} {f f2 : Option Nat} (h : StpR n b a f a2 f2) : a ≤ a2 := by
  rcases h with ⟨h1, h2, h3⟩ | ⟨h1, h2, h3⟩ <;> omega
theorem psT_mono {n : Nat} {b : Nat → Nat} : ∀ {a d : Nat}, psT n b a + d ≤ psT n b (a + d)
  | a, 0 => Nat.le_refl _
  | a, d + 1 => by
    have h1 := psT_mono (n := n) (b := b) (a := a) (d := d)
    have h2 : psT n b (a + d) < psT n b (a + (d + 1)) := tNx_gt
    omega
theorem psT_lt {n a c : Nat} {b : Nat → Nat} (h : a < c) : psT n b a < psT n b c := by
  have := psT_mono (n := n) (b := b) (a := a) (d := c - a)
  rw [show a + (c - a) = c by omega] at this
  omega
def tdB (x0 x1 x2 x3 : Bool) : Nat := (if x0 = true then 64 else 0) + (if x1 = true then 128 else 0) + (if x2 = true then 256 else 0) + (if x3 = true then 512 else 0)
def tdN (o : Nat → Option Nat) : Nat := tdB (o 0).isSome (o 1).isSome (o 2).isSome (o 3).isSome
theorem tdB_bit : ∀ x0 x1 x2 x3 : Bool, tdB x0 x1 x2 x3 < 1024 ∧ ((tdB x0 x1 x2 x3 &&& 64 = 0 ↔ x0 = false) ∧ (tdB x0 x1 x2 x3 &&& 128 = 0 ↔ x1 = false) ∧ (tdB x0 x1 x2 x3 &&& 256 = 0 ↔ x2 = false) ∧ (tdB x0 x1 x2 x3 &&& 512 = 0 ↔ x3 = false)) ∧ (tdB x0 x1 x2 x3 ||| 64 = tdB true x1 x2 x3 ∧ tdB x0 x1 x2 x3 ||| 128 = tdB x0 true x2 x3 ∧ tdB x0 x1 x2 x3 ||| 256 = tdB x0 x1 true x3 ∧ tdB x0 x1 x2 x3 ||| 512 = tdB x0 x1 x2 true) := by decide
theorem isSome_f {o : Option Nat} : o.isSome = false ↔ o = none := by cases o <;> simp
theorem td_bit {o : Nat → Option Nat} {i : Nat} (hi : i < 4) : tdN o &&& 2 ^ (6 + i) = 0 ↔ o i = none := by
  obtain ⟨_, ⟨q0, q1, q2, q3⟩, _⟩ := tdB_bit (o 0).isSome (o 1).isSome (o 2).isSome (o 3).isSome
  rcases (show i = 0 ∨ i = 1 ∨ i = 2 ∨ i = 3 by omega) with e | e | e | e <;> subst e
  · exact q0.trans isSome_f
  · exact q1.trans isSome_f
  · exact q2.trans isSome_f
  · exact q3.trans isSome_f
theorem td_or {s : RS} {i v : Nat} (hi : i < 4) : tdN s.2.2.2 ||| 2 ^ (6 + i) = tdN (setO s i v).2.2.2 := by
  obtain ⟨_, _, q0, q1, q2, q3⟩ := tdB_bit (s.2.2.2 0).isSome (s.2.2.2 1).isSome (s.2.2.2 2).isSome (s.2.2.2 3).isSome
  rcases (show i = 0 ∨ i = 1 ∨ i = 2 ∨ i = 3 by omega) with e | e | e | e <;> subst e
  · exact q0
  · exact q1
  · exact q2
  · exact q3
theorem td_lt {o : Nat → Option Nat} : tdN o < 1024 := (tdB_bit _ _ _ _).1
theorem RdX.keep {g g2 : Nat → Int32} {T T2 : Nat → Nat → Int32} {n m a : Nat} {b : Nat → Nat} {f : Option Nat} (h : RdX g T n b m a f) (hg : ∀ k, 200 ≤ k → k < 207 → g2 k = g k) (hT : ∀ k, k < 6 → T2 k = T k) : RdX g2 T2 n b m a f := by
  obtain ⟨h1, ⟨m1, m2, m3, m4⟩, h3, h4, h5, h6⟩ := h
  exact ⟨h1.keep (hg _ (by decide) (by decide)) (hg _ (by decide) (by decide)) (hT 1 (by decide)), ⟨m1, m2, m3, fun j hj => by rw [hT 4 (by decide), hT 3 (by decide), hT 5 (by decide)]; exact m4 j hj⟩, h3, by rw [hg _ (by decide) (by decide)]; exact h4, by rw [hg _ (by decide) (by decide)]; exact h5, h6⟩
def FrI (g g2 : Nat → Int32) (T T2 : Nat → Nat → Int32) : Prop := (∀ k, (k < 205 ∨ 208 ≤ k) → (k < 1300 ∨ 1400 ≤ k) → g2 k = g k) ∧ ∀ k, (k < 14 ∨ 17 < k) → T2 k = T k
theorem FrI.tr {g g2 g3 : Nat → Int32} {T T2 T3 : Nat → Nat → Int32} (h : FrI g g2 T T2) (h2 : FrI g2 g3 T2 T3) : FrI g g3 T T3 := ⟨fun k k1 k2 => by rw [h2.1 k k1 k2, h.1 k k1 k2], fun k hk => by rw [h2.2 k hk, h.2 k hk]⟩
theorem FrR.toI {g g2 : Nat → Int32} {T : Nat → Nat → Int32} {a : Nat} {f : Option Nat} (h : FrR g g2 a f) : FrI g g2 T T := ⟨fun k k1 k2 => h.1 k (by omega) (by omega), fun _ _ => rfl⟩
def ItR (g g2 : Nat → Int32) (T T2 : Nat → Nat → Int32) (n : Nat) (b : Nat → Nat) (m p : Nat) (res : Except Nat (RS × Nat)) : Prop := FrI g g2 T T2 ∧
  ((∃ s' a2, res = .ok (s', psT n b a2) ∧ RdX g2 T2 n b m a2 none ∧ RwX g2 T2 s' ∧ g2 207 = nI (tdN s'.2.2.2) ∧ RsOK s' ∧ p < psT n b a2) ∨ (∃ q, res = .error q ∧ q < 256 ∧ g2 206 = nI q))
abbrev rmX2_readThing : Room := { frames := 2, cells := 0, slots := 0, locals := 43 }
theorem fX2_readThing_40 : Cond.fieldLink RX2 40 RX2 (TX2 6).2.1 (TX2 6).2.2.1 ∈ wsX2_readThing := by decide +kernel
theorem fX2_readThing_83 : Cond.fieldLink RX2 83 RX3 (TX3 0).2.1 (TX3 0).2.2.1 ∈ wsX2_readThing := by decide +kernel
theorem iX2_readThing_2 : ∀ x ∈ wsX20, x ∈ wsX2_readThing := by decide +kernel
theorem iX2_readThing_3 : ∀ x ∈ wsX30, x ∈ wsX2_readThing := by decide +kernel
theorem dm_X2_readNumber : yX2_readNumber.cls = RX2 ∧ yX2_readNumber.cls ≠ "java/lang/invoke/MethodHandle" ∧ yX2_readNumber.cls ≠ "java/lang/invoke/VarHandle" ∧ (parseMethodDescriptor yX2_readNumber.desc).map (fun d => d.parameters.length) = some 2 := by decide +kernel
theorem dm_X2_readStop : yX2_readStop.cls = RX2 ∧ yX2_readStop.cls ≠ "java/lang/invoke/MethodHandle" ∧ yX2_readStop.cls ≠ "java/lang/invoke/VarHandle" ∧ (parseMethodDescriptor yX2_readStop.desc).map (fun d => d.parameters.length) = some 0 := by decide +kernel
theorem dm_X3_addThing : yX3_addThing.cls = RX3 ∧ yX3_addThing.cls ≠ "java/lang/invoke/MethodHandle" ∧ yX3_addThing.cls ≠ "java/lang/invoke/VarHandle" ∧ (parseMethodDescriptor yX3_addThing.desc).map (fun d => d.parameters.length) = some 4 := by decide +kernel
set_option maxRecDepth 100000 in
set_option maxHeartbeats 4000000 in
theorem c_X2_readThing (E : EN) (hM : EM E) (g : Nat → Int32) (h : Nat → Int64) (T : Nat → Nat → Int32) (L : Nat → Nat → Int64) (n : Nat) (b : Nat → Nat) (m a : Nat) (hR : RdX g T n b m a none) (s : RS) (hW : RwX g T s) (hO : RsOK s) (h7 : g 207 = nI (tdN s.2.2.2)) (hk : tKn n b (psT n b a) = 4) : GtV E yX2_readThing wsX2_readThing rmX2_readThing [.ref (eA E 2), .ref (eA E 13)] g h T L (fun g2 h2 T2 L2 => ItR g g2 T T2 n b m (psT n b a) (thingS n b s (psT n b a)) ∧ h2 = h ∧ L2 = L) := by
  refine CtV_of (cc := cX2_readThing) (nL := 6) RX2 [some (.ref (eA E 2)), some (.ref (eA E 13)), none, none, none, none] ⟨rfl, rfl⟩ (by decide) rfl rfl (Nat.le_of_ble_eq_true rfl) ⟨4, rfl⟩ hM.2 (fun Y hnm C hQ => ?_)
  have hM0 := hM
  obtain ⟨hS, hNN⟩ := hM
  have hR0 := hR
  have hps := hR.ps
  obtain ⟨hX, ⟨m1, m2, m3, m4⟩, ham, hg5, hg6, hf⟩ := hR
  have hrow := m4 a ham
  obtain ⟨w4, w3, w5⟩ := hrow
  have hW0 := hW
  obtain ⟨w0, w1, w2, w3b, w4b, w5b, w6b, w7b, w8b, w9b⟩ := hW
  have hm7 := hO.1
  have hp7 := p7 hm7
  have hal := hR0.lt (by rw [hk]; decide)
  refine J_aload_1 C dX2_readThing_0 ?_
  refine G3_geti C (n := 1300) 0 dX2_readThing_1 fX2_readThing_83 iX2_readThing_3 rfl (hS _ (by decide)) rfl rfl ?_
  refine J_bipush C (7) dX2_readThing_4 bc_7 ?_
  refine J_icmp_lt C 14 dX2_readThing_6 (by decide) (fun hc6 => ?_) (fun hc6 => ?_)
  · skip
    have hlt7 : s.1 < 7 := by
      rw [show g (100 * 13 + 0) = nI s.1 from w0] at hc6
      exact (nI_ltI (b := 7) (by omega) (by decide)).mp hc6
    refine J_aload_0 C dX2_readThing_14 ?_
    refine G_vtv C dX2_readThing_15 (c_X2_advance E hM0 g h T L a (by omega) hg5) gX2_readThing_X2_advance rfl dm_X2_advance rfl rfl (hS _ (by decide)) rfl rfl (Nat.le_of_ble_eq_true rfl) (rmOK_b rfl) (fun g15 h15 T15 L15 hp15 => ?_)
    obtain ⟨rfl, rfl, rfl, rfl⟩ := hp15
    have hR1 : RdX _ T15 n b m (a + 1) none := hR0.to (FrR.nx hg6) (by omega) hf (fun _ _ => rfl)
    refine J_aload_0 C dX2_readThing_18 ?_
    refine J_iconst C (0) dX2_readThing_19 ic_0 ?_
    refine J_iconst C (1) dX2_readThing_20 ic_1 ?_
    refine G_vti C dX2_readThing_21 (c_X2_readNumber E hM0 _ _ _ _ n b m _ _ hR1 0 2 (by decide) (by decide) 1 (by decide)) gX2_readThing_X2_readNumber rfl dm_X2_readNumber rfl rfl (hS _ (by decide)) rfl rfl (Nat.le_of_ble_eq_true rfl) (rmOK_b rfl) (fun r21 g21 h21 T21 L21 hp21 => ?_)
    obtain ⟨⟨v1, a1, f1, N1, F1, rfl⟩, rfl, rfl, rfl⟩ := hp21
    have hR2 := N1.step hR1 F1
    refine J_istore_2 C dX2_readThing_24 (by decide) trivial ?_
    refine J_aload_0 C dX2_readThing_25 ?_
    refine J_iconst C (0) dX2_readThing_26 ic_0 ?_
    refine J_iconst C (2) dX2_readThing_27 ic_2 ?_
    refine G_vti C dX2_readThing_28 (c_X2_readNumber E hM0 _ _ _ _ n b m _ _ hR2 0 3 (by decide) (by decide) 2 (by decide)) gX2_readThing_X2_readNumber rfl dm_X2_readNumber rfl rfl (hS _ (by decide)) rfl rfl (Nat.le_of_ble_eq_true rfl) (rmOK_b rfl) (fun r28 g28 h28 T28 L28 hp28 => ?_)
    obtain ⟨⟨v2, a2, f2, N2, F2, rfl⟩, rfl, rfl, rfl⟩ := hp28
    have hR3 := N2.step hR2 F2
    refine J_istore_3 C dX2_readThing_31 (by decide) trivial ?_
    refine J_aload_0 C dX2_readThing_32 ?_
    refine J_iconst C (0) dX2_readThing_33 ic_0 ?_
    refine J_bipush C (9) dX2_readThing_34 bc_9 ?_
    refine G_vti C dX2_readThing_36 (c_X2_readNumber E hM0 _ _ _ _ n b m _ _ hR3 0 10 (by decide) (by decide) 9 (by decide)) gX2_readThing_X2_readNumber rfl dm_X2_readNumber rfl rfl (hS _ (by decide)) rfl rfl (Nat.le_of_ble_eq_true rfl) (rmOK_b rfl) (fun r36 g36 h36 T36 L36 hp36 => ?_)
    obtain ⟨⟨v3, a3, f3, N3, F3, rfl⟩, rfl, rfl, rfl⟩ := hp36
    have hR4 := N3.step hR3 F3
    refine J_istore_4 C dX2_readThing_39 (by decide) trivial ?_
    refine J_aload_0 C dX2_readThing_41 ?_
    refine J_iconst C (1) dX2_readThing_42 ic_1 ?_
    refine J_bipush C (9) dX2_readThing_43 bc_9 ?_
    refine G_vti C dX2_readThing_45 (c_X2_readNumber E hM0 _ _ _ _ n b m _ _ hR4 1 10 (by decide) (by decide) 9 (by decide)) gX2_readThing_X2_readNumber rfl dm_X2_readNumber rfl rfl (hS _ (by decide)) rfl rfl (Nat.le_of_ble_eq_true rfl) (rmOK_b rfl) (fun r45 g45 h45 T45 L45 hp45 => ?_)
    obtain ⟨⟨v4, a4, f4, N4, F4, rfl⟩, rfl, rfl, rfl⟩ := hp45
    have hR5 := N4.step hR4 F4
    refine J_istore_5 C dX2_readThing_48 (by decide) trivial ?_
    refine J_aload_0 C dX2_readThing_50 ?_
    refine G_vtv C dX2_readThing_51 (c_X2_readStop E hM0 _ _ _ _ n b m _ _ hR5) gX2_readThing_X2_readStop rfl dm_X2_readStop rfl rfl (hS _ (by decide)) rfl rfl (Nat.le_of_ble_eq_true rfl) (rmOK_b rfl) (fun g51 h51 T51 L51 hp51 => ?_)
    obtain ⟨⟨a5, f5, N5, F5⟩, rfl, rfl, rfl⟩ := hp51
    have hR6 := N5.step hR5 F5
    have FA := ((((FrR.nx (g := g) (a := a + 1) hg6).trans F1).trans F2).trans F3 |>.trans F4).trans F5
    have hle : a + 1 ≤ a5 := by
      have l1 := (N1.le (by decide)).1
      have l2 := (N2.le (by decide)).1
      have l3 := (N3.le (by decide)).1
      have l4 := (N4.le (by decide)).1
      have l5 := N5.le
      omega
    have b1 := (N1.le (by decide)).2.1
    have b2 := (N2.le (by decide)).2.1
    refine J_aload_0 C dX2_readThing_54 ?_
    refine G2_geti C (n := 206) 6 dX2_readThing_55 fX2_readThing_40 iX2_readThing_2 rfl (hS _ (by decide)) rfl rfl ?_
    refine J_if_ge C 71 dX2_readThing_58 (by decide) (fun hc58 => ?_) (fun hc58 => ?_)
    · skip
      refine hQ _ _ _ dX2_readThing_71 ⟨_, _, _, _, rfl, ?_⟩
      have hsp := show f5 = none ∨ ∃ q, f5 = some q by cases f5 <;> simp
      have hth : ∀ q, f5 = some q → thingS n b s (psT n b a) = .error q := by
        intro q hq
        unfold thingS
        rw [if_neg (by omega)]
        rcases N1.cs with ⟨e1, e2, _⟩ | ⟨q1, e1, e2⟩
        · subst e1
          rcases N2.cs with ⟨e3, e4, _⟩ | ⟨q1, e3, e4⟩
          · subst e3
            rcases N3.cs with ⟨e5, e6, _⟩ | ⟨q1, e5, e6⟩
            · subst e5
              rcases N4.cs with ⟨e7, e8, _⟩ | ⟨q1, e7, e8⟩
              · subst e7
                rcases N5.cs with ⟨e9, _⟩ | ⟨q1, e9, e10⟩
                · rw [e9] at hq; cases hq
                · rw [e9] at hq; cases hq
                  rw [show tNx n b (psT n b a) = psT n b (a + 1) from rfl]
                  simp only [e2, e4, e6, e8, e10]
              · subst e7
                have := N5.st
                rw [this] at hq; cases hq
                rw [show tNx n b (psT n b a) = psT n b (a + 1) from rfl]
                simp only [e2, e4, e6, e8]
            · subst e5
              have e7 := N4.st
              subst e7
              have := N5.st
              rw [this] at hq; cases hq
              rw [show tNx n b (psT n b a) = psT n b (a + 1) from rfl]
              simp only [e2, e4, e6]
          · subst e3
            have e5 := N3.st
            subst e5
            have e7 := N4.st
            subst e7
            have := N5.st
            rw [this] at hq; cases hq
            rw [show tNx n b (psT n b a) = psT n b (a + 1) from rfl]
            simp only [e2, e4]
        · subst e1
          have e3 := N2.st
          subst e3
          have e5 := N3.st
          subst e5
          have e7 := N4.st
          subst e7
          have := N5.st
          rw [this] at hq; cases hq
          rw [show tNx n b (psT n b a) = psT n b (a + 1) from rfl]
          simp only [e2]
      first
      | (obtain ⟨q, hq⟩ : ∃ q, f5 = some q := by
           rcases hsp with e | e
           · rw [F5.2.2, e] at hc58; exact absurd hc58 (by decide)
           · exact e
         subst hq
         exact ⟨⟨FA.toI, Or.inr ⟨q, hth q rfl, hR6.2.2.2.2.2 q rfl, F5.2.2⟩⟩, rfl, rfl⟩)
      | (have e9 : f5 = none := by
           rcases hsp with e | ⟨q, e⟩
           · exact e
           · have := hR6.2.2.2.2.2 q e
             rw [F5.2.2, e] at hc58
             exact absurd (nI_pos' (n := q) (by omega)) hc58
         subst e9
         obtain ⟨hW2, k1, k2, rfl, rfl⟩ := hp68
         have hth2 : f4 = none ∧ f3 = none ∧ f2 = none ∧ f1 = none := by
           refine ⟨?_, ?_, ?_, ?_⟩
           · cases f4 with
             | none => rfl
             | some q => exact absurd N5.st (by simp)
           · cases f3 with
             | none => rfl
             | some q =>
               have z4 := N4.st; subst z4
               exact absurd N5.st (by simp)
           · cases f2 with
             | none => rfl
             | some q =>
               have z3 := N3.st; subst z3
               have z4 := N4.st; subst z4
               exact absurd N5.st (by simp)
           · cases f1 with
             | none => rfl
             | some q =>
               have z2 := N2.st; subst z2
               have z3 := N3.st; subst z3
               have z4 := N4.st; subst z4
               exact absurd N5.st (by simp)
         obtain ⟨rfl, rfl, rfl, rfl⟩ := hth2
         obtain ⟨_, e2, r1, r2⟩ := (N1.cs).resolve_right (fun ⟨_, z, _⟩ => by cases z)
         obtain ⟨_, e4, r3, r4⟩ := (N2.cs).resolve_right (fun ⟨_, z, _⟩ => by cases z)
         obtain ⟨_, e6, r5, r6⟩ := (N3.cs).resolve_right (fun ⟨_, z, _⟩ => by cases z)
         obtain ⟨_, e8, r7, r8⟩ := (N4.cs).resolve_right (fun ⟨_, z, _⟩ => by cases z)
         obtain ⟨_, e10⟩ := (N5.cs).resolve_right (fun ⟨_, z, _⟩ => by cases z)
         refine ⟨⟨FrI.tr FA.toI ⟨fun k _ z => k1 k z, k2⟩, Or.inl ⟨addT s v1 v2 v3 v4, a5, ?_, ?_, hW2, ?_, addT_ok hO hlt7 (by omega) (by omega) (by omega) (by omega) (by omega), psT_lt (by omega)⟩⟩, rfl, rfl⟩
         · unfold thingS
           rw [if_neg (by omega), show tNx n b (psT n b a) = psT n b (a + 1) from rfl]
           simp only [e2, e4, e6, e8, e10]
         · exact hR6.keep (fun k z1 z2 => k1 k (by omega)) (fun k hk => k2 k (by omega))
         · rw [k1 207 (by decide), FA.1 207 (by decide) (by decide)]; exact h7)
    · skip
      refine J_aload_1 C dX2_readThing_61 ?_
      refine J_iload_2 C dX2_readThing_62 ?_
      refine J_iload_3 C dX2_readThing_63 ?_
      refine J_iload_4 C dX2_readThing_64 ?_
      refine J_iload_5 C dX2_readThing_66 ?_
      refine G_vtv C dX2_readThing_68 (c_X3_addThing E hM0 _ _ _ _ s (hW0.keep (fun k k1 k2 => FA.1 k (by omega) (by omega)) (fun _ _ _ => rfl)) hO hlt7 v1 v2 v3 v4 (by omega) (by omega)) gX2_readThing_X3_addThing rfl dm_X3_addThing rfl rfl (hS _ (by decide)) rfl rfl (Nat.le_of_ble_eq_true rfl) (rmOK_b rfl) (fun g68 h68 T68 L68 hp68 => ?_)
      skip
      refine hQ _ _ _ dX2_readThing_71 ⟨_, _, _, _, rfl, ?_⟩
      have hsp := show f5 = none ∨ ∃ q, f5 = some q by cases f5 <;> simp
      have hth : ∀ q, f5 = some q → thingS n b s (psT n b a) = .error q := by
        intro q hq
        unfold thingS
        rw [if_neg (by omega)]
        rcases N1.cs with ⟨e1, e2, _⟩ | ⟨q1, e1, e2⟩
        · subst e1
          rcases N2.cs with ⟨e3, e4, _⟩ | ⟨q1, e3, e4⟩
          · subst e3
            rcases N3.cs with ⟨e5, e6, _⟩ | ⟨q1, e5, e6⟩
            · subst e5
              rcases N4.cs with ⟨e7, e8, _⟩ | ⟨q1, e7, e8⟩
              · subst e7
                rcases N5.cs with ⟨e9, _⟩ | ⟨q1, e9, e10⟩
                · rw [e9] at hq; cases hq
                · rw [e9] at hq; cases hq
                  rw [show tNx n b (psT n b a) = psT n b (a + 1) from rfl]
                  simp only [e2, e4, e6, e8, e10]
              · subst e7
                have := N5.st
                rw [this] at hq; cases hq
                rw [show tNx n b (psT n b a) = psT n b (a + 1) from rfl]
                simp only [e2, e4, e6, e8]
            · subst e5
              have e7 := N4.st
              subst e7
              have := N5.st
              rw [this] at hq; cases hq
              rw [show tNx n b (psT n b a) = psT n b (a + 1) from rfl]
              simp only [e2, e4, e6]
          · subst e3
            have e5 := N3.st
            subst e5
            have e7 := N4.st
            subst e7
            have := N5.st
            rw [this] at hq; cases hq
            rw [show tNx n b (psT n b a) = psT n b (a + 1) from rfl]
            simp only [e2, e4]
        · subst e1
          have e3 := N2.st
          subst e3
          have e5 := N3.st
          subst e5
          have e7 := N4.st
          subst e7
          have := N5.st
          rw [this] at hq; cases hq
          rw [show tNx n b (psT n b a) = psT n b (a + 1) from rfl]
          simp only [e2]
      first
      | (obtain ⟨q, hq⟩ : ∃ q, f5 = some q := by
           rcases hsp with e | e
           · rw [F5.2.2, e] at hc58; exact absurd hc58 (by decide)
           · exact e
         subst hq
         exact ⟨⟨FA.toI, Or.inr ⟨q, hth q rfl, hR6.2.2.2.2.2 q rfl, F5.2.2⟩⟩, rfl, rfl⟩)
      | (have e9 : f5 = none := by
           rcases hsp with e | ⟨q, e⟩
           · exact e
           · have := hR6.2.2.2.2.2 q e
             rw [F5.2.2, e] at hc58
             exact absurd (nI_pos' (n := q) (by omega)) hc58
         subst e9
         obtain ⟨hW2, k1, k2, rfl, rfl⟩ := hp68
         have hth2 : f4 = none ∧ f3 = none ∧ f2 = none ∧ f1 = none := by
           refine ⟨?_, ?_, ?_, ?_⟩
           · cases f4 with
             | none => rfl
             | some q => exact absurd N5.st (by simp)
           · cases f3 with
             | none => rfl
             | some q =>
               have z4 := N4.st; subst z4
               exact absurd N5.st (by simp)
           · cases f2 with
             | none => rfl
             | some q =>
               have z3 := N3.st; subst z3
               have z4 := N4.st; subst z4
               exact absurd N5.st (by simp)
           · cases f1 with
             | none => rfl
             | some q =>
               have z2 := N2.st; subst z2
               have z3 := N3.st; subst z3
               have z4 := N4.st; subst z4
               exact absurd N5.st (by simp)
         obtain ⟨rfl, rfl, rfl, rfl⟩ := hth2
         obtain ⟨_, e2, r1, r2⟩ := (N1.cs).resolve_right (fun ⟨_, z, _⟩ => by cases z)
         obtain ⟨_, e4, r3, r4⟩ := (N2.cs).resolve_right (fun ⟨_, z, _⟩ => by cases z)
         obtain ⟨_, e6, r5, r6⟩ := (N3.cs).resolve_right (fun ⟨_, z, _⟩ => by cases z)
         obtain ⟨_, e8, r7, r8⟩ := (N4.cs).resolve_right (fun ⟨_, z, _⟩ => by cases z)
         obtain ⟨_, e10⟩ := (N5.cs).resolve_right (fun ⟨_, z, _⟩ => by cases z)
         refine ⟨⟨FrI.tr FA.toI ⟨fun k _ z => k1 k z, k2⟩, Or.inl ⟨addT s v1 v2 v3 v4, a5, ?_, ?_, hW2, ?_, addT_ok hO hlt7 (by omega) (by omega) (by omega) (by omega) (by omega), psT_lt (by omega)⟩⟩, rfl, rfl⟩
         · unfold thingS
           rw [if_neg (by omega), show tNx n b (psT n b a) = psT n b (a + 1) from rfl]
           simp only [e2, e4, e6, e8, e10]
         · exact hR6.keep (fun k z1 z2 => k1 k (by omega)) (fun k hk => k2 k (by omega))
         · rw [k1 207 (by decide), FA.1 207 (by decide) (by decide)]; exact h7)
  · skip
    refine J_aload_0 C dX2_readThing_9 ?_
    refine G_vtv C dX2_readThing_10 (c_X2_fail E hM0 g h T L n b m a none hR0) gX2_readThing_X2_fail rfl dm_X2_fail rfl rfl (hS _ (by decide)) rfl rfl (Nat.le_of_ble_eq_true rfl) (rmOK_b rfl) (fun g10 h10 T10 L10 hp10 => ?_)
    refine hQ _ _ _ dX2_readThing_13 ⟨_, _, _, _, rfl, ?_⟩
    obtain ⟨hF, rfl, rfl, rfl⟩ := hp10
    have h7s : 7 ≤ s.1 := by
      rw [show g (100 * 13 + 0) = nI s.1 from w0] at hc6
      rcases Nat.lt_or_ge s.1 7 with q | q
      · exact absurd (nI_lt (b := 7) q (by decide)) hc6
      · exact q
    refine ⟨⟨hF.toI, Or.inr ⟨psT n b a, ?_, by omega, hF.2.2⟩⟩, rfl, rfl⟩
    unfold thingS
    rw [if_pos h7s]
def FeR (n : Nat) (b : Nat → Nat) (a1 v1 : Nat) (f1 f : Option Nat) : Prop := ((tKn n b (psT n b a1) = 1 ∧ tVo n b (psT n b a1) = some v1) ∧ f = orF f1 (psT n b a1)) ∨ (¬ (tKn n b (psT n b a1) = 1 ∧ tVo n b (psT n b a1) = some v1) ∧ f = f1)
theorem FeR.st {n a1 v1 q : Nat} {b : Nat → Nat} {f : Option Nat} (h : FeR n b a1 v1 (some q) f) : f = some q := by
  rcases h with ⟨_, h⟩ | ⟨_, h⟩
  · exact h
  · exact h
theorem fears_rel {n a v1 a1 v2 a2 a3 : Nat} {b : Nat → Nat} {s : RS} {f1 f f2 f3 : Option Nat} (N1 : NumR n b 0 s.1 (a + 1) none v1 a1 f1) (hF : FeR n b a1 v1 f1 f) (N2 : NumR n b 0 s.1 a1 f v2 a2 f2) (N3 : StpR n b a2 f2 a3 f3) (h8 : ¬ 8 ≤ s.2.2.1) : (f3 = none ∧ v1 < s.1 ∧ v2 < s.1 ∧ v1 ≠ v2 ∧ fearsS n b s (psT n b a) = .ok (addP s v1 v2, psT n b a3)) ∨ (∃ q, f3 = some q ∧ fearsS n b s (psT n b a) = .error q) := by
  unfold fearsS
  rw [if_neg h8, show tNx n b (psT n b a) = psT n b (a + 1) from rfl]
  rcases N1.cs with ⟨e1, e2, _, r1⟩ | ⟨q, e1, e2⟩
  · subst e1
    simp only [e2]
    rcases hF with ⟨⟨k1, k2⟩, e3⟩ | ⟨k1, e3⟩
    · have e4 : f = some (psT n b a1) := e3
      subst e4
      have e5 := N2.st
      subst e5
      refine Or.inr ⟨_, N3.st, ?_⟩
      rcases N2 with ⟨h1, h2, h3⟩ | ⟨h1, h2, h3, h4⟩
      · have h9 := (nuO_some.mp h1).2.1
        rw [k2] at h9
        cases h9
        unfold numE
        rw [h1]
        simp
      · unfold numE
        rw [h1]
    · subst e3
      rcases N2.cs with ⟨e5, e6, _, r2⟩ | ⟨q, e5, e6⟩
      · subst e5
        have hne : v2 ≠ v1 := by
          intro e
          rcases N2 with ⟨h1, h2, h3⟩ | ⟨h1, h2, h3, h4⟩
          · have h9 := nuO_some.mp h1
            exact k1 ⟨h9.1, by rw [h9.2.1, e]⟩
          · cases h4
        simp only [e6, if_neg hne]
        rcases N3.cs with ⟨e7, e8⟩ | ⟨q, e7, e8⟩
        · simp only [e8]
          exact Or.inl ⟨e7, r1, r2, Ne.symm hne, trivial⟩
        · simp only [e8]
          exact Or.inr ⟨q, e7, rfl⟩
      · subst e5
        simp only [e6]
        exact Or.inr ⟨q, N3.st, rfl⟩
  · subst e1
    simp only [e2]
    have e3 := hF.st
    subst e3
    have e5 := N2.st
    subst e5
    exact Or.inr ⟨q, N3.st, rfl⟩
theorem setO_ok {s : RS} {i v : Nat} (h : RsOK s) (hi : i < 4) (h1 : loO i ≤ v) (h2 : v < hxO i) : RsOK (setO s i v) := by
  obtain ⟨a1, a2, a3, a4, a5, a6, a7, a8, a9⟩ := h
  refine ⟨a1, a2, a3, a4, a5, ?_, ?_, ?_, ?_⟩
  · intro x hx
    simp only [setO] at hx
    split at hx
    · rename_i e; subst e; cases hx; simp only [hxO] at h2; omega
    · exact a6 x hx
  · intro x hx
    simp only [setO] at hx
    split at hx
    · rename_i e; subst e; cases hx; simp only [hxO, loO] at h1 h2; omega
    · exact a7 x hx
  · intro x hx
    simp only [setO] at hx
    split at hx
    · rename_i e; subst e; cases hx; simp only [hxO] at h2; omega
    · exact a8 x hx
  · intro x hx
    simp only [setO] at hx
    split at hx
    · rename_i e; subst e; cases hx; simp only [hxO] at h2; omega
    · exact a9 x hx
abbrev rmX2_readFears : Room := { frames := 2, cells := 0, slots := 0, locals := 43 }
theorem fX2_readFears_18 : Cond.fieldLink RX2 18 RX2 (TX2 4).2.1 (TX2 4).2.2.1 ∈ wsX2_readFears := by decide +kernel
theorem fX2_readFears_37 : Cond.fieldLink RX2 37 RX2 (TX2 5).2.1 (TX2 5).2.2.1 ∈ wsX2_readFears := by decide +kernel
theorem fX2_readFears_40 : Cond.fieldLink RX2 40 RX2 (TX2 6).2.1 (TX2 6).2.2.1 ∈ wsX2_readFears := by decide +kernel
theorem fX2_readFears_83 : Cond.fieldLink RX2 83 RX3 (TX3 0).2.1 (TX3 0).2.2.1 ∈ wsX2_readFears := by decide +kernel
theorem fX2_readFears_9 : Cond.fieldLink RX2 9 RX2 (TX2 2).2.1 (TX2 2).2.2.1 ∈ wsX2_readFears := by decide +kernel
theorem fX2_readFears_99 : Cond.fieldLink RX2 99 RX3 (TX3 2).2.1 (TX3 2).2.2.1 ∈ wsX2_readFears := by decide +kernel
theorem iX2_readFears_2 : ∀ x ∈ wsX20, x ∈ wsX2_readFears := by decide +kernel
theorem iX2_readFears_3 : ∀ x ∈ wsX30, x ∈ wsX2_readFears := by decide +kernel
theorem dm_X3_addPair : yX3_addPair.cls = RX3 ∧ yX3_addPair.cls ≠ "java/lang/invoke/MethodHandle" ∧ yX3_addPair.cls ≠ "java/lang/invoke/VarHandle" ∧ (parseMethodDescriptor yX3_addPair.desc).map (fun d => d.parameters.length) = some 2 := by decide +kernel
set_option maxRecDepth 100000 in
set_option maxHeartbeats 4000000 in
theorem c_X2_readFears (E : EN) (hM : EM E) (g : Nat → Int32) (h : Nat → Int64) (T : Nat → Nat → Int32) (L : Nat → Nat → Int64) (n : Nat) (b : Nat → Nat) (m a : Nat) (hR : RdX g T n b m a none) (s : RS) (hW : RwX g T s) (hO : RsOK s) (h7 : g 207 = nI (tdN s.2.2.2)) (hk : tKn n b (psT n b a) = 5) : GtV E yX2_readFears wsX2_readFears rmX2_readFears [.ref (eA E 2), .ref (eA E 13)] g h T L (fun g2 h2 T2 L2 => ItR g g2 T T2 n b m (psT n b a) (fearsS n b s (psT n b a)) ∧ h2 = h ∧ L2 = L) := by
  refine CtV_of (cc := cX2_readFears) (nL := 4) RX2 [some (.ref (eA E 2)), some (.ref (eA E 13)), none, none] ⟨rfl, rfl⟩ (by decide) rfl rfl (Nat.le_of_ble_eq_true rfl) ⟨2, rfl⟩ hM.2 (fun Y hnm C hQ => ?_)
  have hM0 := hM
  obtain ⟨hS, hNN⟩ := hM
  have hR0 := hR
  have hps := hR.ps
  obtain ⟨hX, ⟨m1, m2, m3, m4⟩, ham, hg5, hg6, hf⟩ := hR
  have hrow := m4 a ham
  obtain ⟨w4, w3, w5⟩ := hrow
  have hW0 := hW
  obtain ⟨w0, w1, w2, w3b, w4b, w5b, w6b, w7b, w8b, w9b⟩ := hW
  have hm7 := hO.1
  have hp7 := p7 hm7
  have hal := hR0.lt (by rw [hk]; decide)
  refine J_aload_1 C dX2_readFears_0 ?_
  refine G3_geti C (n := 1302) 2 dX2_readFears_1 fX2_readFears_99 iX2_readFears_3 rfl (hS _ (by decide)) rfl rfl ?_
  refine J_bipush C (8) dX2_readFears_4 bc_8 ?_
  refine J_icmp_lt C 14 dX2_readFears_6 (by decide) (fun hc6 => ?_) (fun hc6 => ?_)
  · skip
    have hlt7 : s.2.2.1 < 8 := by
      have h8 := hO.2.1
      rw [show g (100 * 13 + 2) = nI s.2.2.1 from w2] at hc6
      exact (nI_ltI (b := 8) (by omega) (by decide)).mp hc6
    refine J_aload_0 C dX2_readFears_14 ?_
    refine G_vtv C dX2_readFears_15 (c_X2_advance E hM0 g h T L a (by omega) hg5) gX2_readFears_X2_advance rfl dm_X2_advance rfl rfl (hS _ (by decide)) rfl rfl (Nat.le_of_ble_eq_true rfl) (rmOK_b rfl) (fun g15 h15 T15 L15 hp15 => ?_)
    obtain ⟨rfl, rfl, rfl, rfl⟩ := hp15
    have hR1 : RdX _ T15 n b m (a + 1) none := hR0.to (FrR.nx hg6) (by omega) hf (fun _ _ => rfl)
    refine J_aload_0 C dX2_readFears_18 ?_
    refine J_iconst C (0) dX2_readFears_19 ic_0 ?_
    refine J_aload_1 C dX2_readFears_20 ?_
    refine G3_geti C (n := 1300) 0 dX2_readFears_21 fX2_readFears_83 iX2_readFears_3 rfl (hS _ (by decide)) rfl rfl ?_
    refine J_iconst C (1) dX2_readFears_24 ic_1 ?_
    refine J_isub C dX2_readFears_25 ?_
    refine G_vti C dX2_readFears_26 (c_X2_readNumber E hM0 _ _ _ _ n b m _ _ hR1 0 s.1 (by decide) (by omega) _ (show g 1300 - 1 = nI s.1 - 1 by rw [w0])) gX2_readFears_X2_readNumber rfl dm_X2_readNumber rfl rfl (hS _ (by decide)) rfl rfl (Nat.le_of_ble_eq_true rfl) (rmOK_b rfl) (fun r26 g26 h26 T26 L26 hp26 => ?_)
    obtain ⟨⟨v1, a1, f1, N1, F1, rfl⟩, rfl, rfl, rfl⟩ := hp26
    have hR2 := N1.step hR1 F1
    have FB := (FrR.nx (g := g) (a := a + 1) hg6).trans F1
    obtain ⟨hX2, ⟨x1, x2, x3, x4⟩, xam, xg5, xg6, xf⟩ := hR2
    obtain ⟨y4, y3, y5⟩ := x4 a1 xam
    have hR2 : RdX g26 T26 n b m a1 f1 := ⟨hX2, ⟨x1, x2, x3, x4⟩, xam, xg5, xg6, xf⟩
    refine J_istore_2 C dX2_readFears_29 (by decide) trivial ?_
    have hcut : ∀ (fb : Option Nat) (g3 : Nat → Int32), FeR n b a1 v1 f1 fb → FrR g26 g3 a1 fb → RdX g3 T26 n b m a1 fb → J E Y (eN E) 0 0 (wS E g3 h26 T26 L26) 60 [some (.ref (eA E 2)), some (.ref (eA E 13)), some (.int (nI v1)), none] [] := by
      intro fb g3 hFe F3 hR3
      have FC := FB.trans F3
      refine J_aload_0 C dX2_readFears_60 ?_
      refine J_iconst C (0) dX2_readFears_61 ic_0 ?_
      refine J_aload_1 C dX2_readFears_62 ?_
      refine G3_geti C (n := 1300) 0 dX2_readFears_63 fX2_readFears_83 iX2_readFears_3 rfl (hS _ (by decide)) rfl rfl ?_
      refine J_iconst C (1) dX2_readFears_66 ic_1 ?_
      refine J_isub C dX2_readFears_67 ?_
      refine G_vti C dX2_readFears_68 (c_X2_readNumber E hM0 _ _ _ _ n b m _ _ hR3 0 s.1 (by decide) (by omega) _ (show g3 1300 - 1 = nI s.1 - 1 by rw [FC.1 1300 (by decide) (by decide), w0])) gX2_readFears_X2_readNumber rfl dm_X2_readNumber rfl rfl (hS _ (by decide)) rfl rfl (Nat.le_of_ble_eq_true rfl) (rmOK_b rfl) (fun r68 g68 h68 T68 L68 hp68 => ?_)
      obtain ⟨⟨v2, a2, f2, N2, F4, rfl⟩, rfl, rfl, rfl⟩ := hp68
      have hR4 := N2.step hR3 F4
      refine J_istore_3 C dX2_readFears_71 (by decide) trivial ?_
      refine J_aload_0 C dX2_readFears_72 ?_
      refine G_vtv C dX2_readFears_73 (c_X2_readStop E hM0 _ _ _ _ n b m _ _ hR4) gX2_readFears_X2_readStop rfl dm_X2_readStop rfl rfl (hS _ (by decide)) rfl rfl (Nat.le_of_ble_eq_true rfl) (rmOK_b rfl) (fun g73 h73 T73 L73 hp73 => ?_)
      obtain ⟨⟨a3, f3, N3, F5⟩, rfl, rfl, rfl⟩ := hp73
      have hR5 := N3.step hR4 F5
      have FA := (FC.trans F4).trans F5
      have hle : a + 1 ≤ a3 := by
        have l1 := (N1.le (Or.inr rfl)).1
        have l2 := (N2.le (Or.inr rfl)).1
        have l5 := N3.le
        omega
      have hrel := fears_rel N1 hFe N2 N3 (by omega)
      refine J_aload_0 C dX2_readFears_76 ?_
      refine G2_geti C (n := 206) 6 dX2_readFears_77 fX2_readFears_40 iX2_readFears_2 rfl (hS _ (by decide)) rfl rfl ?_
      refine J_if_ge C 89 dX2_readFears_80 (by decide) (fun hc80 => ?_) (fun hc80 => ?_)
      · skip
        refine hQ _ _ _ dX2_readFears_89 ⟨_, _, _, _, rfl, ?_⟩
        first
        | (rcases hrel with ⟨e, _⟩ | ⟨q, e, e2⟩
           · rw [F5.2.2, e] at hc80; exact absurd hc80 (by decide)
           · subst e
             exact ⟨⟨FA.toI, Or.inr ⟨q, e2, hR5.2.2.2.2.2 q rfl, F5.2.2⟩⟩, rfl, rfl⟩)
        | (subst e9
           obtain ⟨hW2, k1, k2, rfl, rfl⟩ := hp86
           refine ⟨⟨FrI.tr FA.toI ⟨fun k _ z => k1 k z, k2⟩, Or.inl ⟨addP s v1 v2, a3, hok, hR5.keep (fun k z1 z2 => k1 k (by omega)) (fun k hk => k2 k (by omega)), hW2, ?_, addP_ok hO hv1 hv2 hne hlt7, psT_lt (by omega)⟩⟩, rfl, rfl⟩
           rw [k1 207 (by decide), FA.1 207 (by decide) (by decide)]; exact h7)
      · skip
        obtain ⟨e9, hv1, hv2, hne, hok⟩ := hrel.resolve_right (fun ⟨q, e, _⟩ => by
          have := hR5.2.2.2.2.2 q e
          rw [F5.2.2, e] at hc80
          exact absurd (nI_pos' (n := q) (by omega)) hc80)
        refine J_aload_1 C dX2_readFears_83 ?_
        refine J_iload_2 C dX2_readFears_84 ?_
        refine J_iload_3 C dX2_readFears_85 ?_
        refine G_vtv C dX2_readFears_86 (c_X3_addPair E hM0 _ _ _ _ s (hW0.keep (fun k k1 k2 => FA.1 k (by omega) (by omega)) (fun _ _ _ => rfl)) hO v1 v2 hv1 hv2 hne) gX2_readFears_X3_addPair rfl dm_X3_addPair rfl rfl (hS _ (by decide)) rfl rfl (Nat.le_of_ble_eq_true rfl) (rmOK_b rfl) (fun g86 h86 T86 L86 hp86 => ?_)
        skip
        refine hQ _ _ _ dX2_readFears_89 ⟨_, _, _, _, rfl, ?_⟩
        first
        | (rcases hrel with ⟨e, _⟩ | ⟨q, e, e2⟩
           · rw [F5.2.2, e] at hc80; exact absurd hc80 (by decide)
           · subst e
             exact ⟨⟨FA.toI, Or.inr ⟨q, e2, hR5.2.2.2.2.2 q rfl, F5.2.2⟩⟩, rfl, rfl⟩)
        | (subst e9
           obtain ⟨hW2, k1, k2, rfl, rfl⟩ := hp86
           refine ⟨⟨FrI.tr FA.toI ⟨fun k _ z => k1 k z, k2⟩, Or.inl ⟨addP s v1 v2, a3, hok, hR5.keep (fun k z1 z2 => k1 k (by omega)) (fun k hk => k2 k (by omega)), hW2, ?_, addP_ok hO hv1 hv2 hne hlt7, psT_lt (by omega)⟩⟩, rfl, rfl⟩
           rw [k1 207 (by decide), FA.1 207 (by decide) (by decide)]; exact h7)
    refine J_aload_0 C dX2_readFears_30 ?_
    refine G2_getr C (n := 3) 2 dX2_readFears_31 fX2_readFears_9 iX2_readFears_2 rfl (hS _ (by decide)) rfl rfl ?_
    refine J_aload_0 C dX2_readFears_34 ?_
    refine G2_geti C (n := 205) 5 dX2_readFears_35 fX2_readFears_37 iX2_readFears_2 rfl (hS _ (by decide)) rfl rfl ?_
    refine G_iald C a1 dX2_readFears_38 rfl (hS _ (by decide)) xg5 (by omega) ?_
    rw [y3]
    refine J_iconst C (1) dX2_readFears_39 ic_1 ?_
    refine J_icmp_ne C 60 dX2_readFears_40 (by decide) (fun hc40 => ?_) (fun hc40 => ?_)
    · skip
      have hpl := psT_le (n := n) (b := b) (j := a1) (fun i hi => x3 i (by omega))
      have hX1 := hX2.1
      first
      | exact hcut f1 g26 (Or.inr ⟨fun z => hc40 (by rw [z.1]; rfl), rfl⟩) ⟨fun _ _ _ => rfl, xg5, xg6⟩ hR2
      | exact hcut f1 g26 (Or.inr ⟨fun z => hc53 (by rw [z.2]; rfl), rfl⟩) ⟨fun _ _ _ => rfl, xg5, xg6⟩ hR2
      | (have hk1 : tKn n b (psT n b a1) = 1 := nI_inj (by have := tKn_le (n := n) (b := b) (p := psT n b a1); omega) (by decide) hc40
         have hv1 : tVo n b (psT n b a1) = some v1 := by
           have hb1 := (N1.le (Or.inr rfl)).2.2
           cases q : tVo n b (psT n b a1) with
           | none => rw [q] at hc53; exact absurd (show (oI none) < 0 by decide) (by rw [hc53]; exact nI_pos (by omega))
           | some z =>
             have hz := tVo_lt hR2 q
             rw [q] at hc53
             rw [nI_inj (by omega) (by omega) hc53]
         exact hcut _ _ (Or.inl ⟨⟨hk1, hv1⟩, rfl⟩) F2 (hR2.to F2 xam (orF_lt xf (by omega)) (fun _ _ => rfl)))
    · skip
      refine J_aload_0 C dX2_readFears_43 ?_
      refine G2_getr C (n := 5) 4 dX2_readFears_44 fX2_readFears_18 iX2_readFears_2 rfl (hS _ (by decide)) rfl rfl ?_
      refine J_aload_0 C dX2_readFears_47 ?_
      refine G2_geti C (n := 205) 5 dX2_readFears_48 fX2_readFears_37 iX2_readFears_2 rfl (hS _ (by decide)) rfl rfl ?_
      refine G_iald C a1 dX2_readFears_51 rfl (hS _ (by decide)) xg5 (by omega) ?_
      rw [y5]
      refine J_iload_2 C dX2_readFears_52 ?_
      refine J_icmp_ne C 60 dX2_readFears_53 (by decide) (fun hc53 => ?_) (fun hc53 => ?_)
      · skip
        have hpl := psT_le (n := n) (b := b) (j := a1) (fun i hi => x3 i (by omega))
        have hX1 := hX2.1
        first
        | exact hcut f1 g26 (Or.inr ⟨fun z => hc40 (by rw [z.1]; rfl), rfl⟩) ⟨fun _ _ _ => rfl, xg5, xg6⟩ hR2
        | exact hcut f1 g26 (Or.inr ⟨fun z => hc53 (by rw [z.2]; rfl), rfl⟩) ⟨fun _ _ _ => rfl, xg5, xg6⟩ hR2
        | (have hk1 : tKn n b (psT n b a1) = 1 := nI_inj (by have := tKn_le (n := n) (b := b) (p := psT n b a1); omega) (by decide) hc40
           have hv1 : tVo n b (psT n b a1) = some v1 := by
             have hb1 := (N1.le (Or.inr rfl)).2.2
             cases q : tVo n b (psT n b a1) with
             | none => rw [q] at hc53; exact absurd (show (oI none) < 0 by decide) (by rw [hc53]; exact nI_pos (by omega))
             | some z =>
               have hz := tVo_lt hR2 q
               rw [q] at hc53
               rw [nI_inj (by omega) (by omega) hc53]
           exact hcut _ _ (Or.inl ⟨⟨hk1, hv1⟩, rfl⟩) F2 (hR2.to F2 xam (orF_lt xf (by omega)) (fun _ _ => rfl)))
      · skip
        refine J_aload_0 C dX2_readFears_56 ?_
        refine G_vtv C dX2_readFears_57 (c_X2_fail E hM0 _ _ _ _ n b m a1 f1 hR2) gX2_readFears_X2_fail rfl dm_X2_fail rfl rfl (hS _ (by decide)) rfl rfl (Nat.le_of_ble_eq_true rfl) (rmOK_b rfl) (fun g57 h57 T57 L57 hp57 => ?_)
        obtain ⟨F2, rfl, rfl, rfl⟩ := hp57
        have hpl := psT_le (n := n) (b := b) (j := a1) (fun i hi => x3 i (by omega))
        have hX1 := hX2.1
        first
        | exact hcut f1 g26 (Or.inr ⟨fun z => hc40 (by rw [z.1]; rfl), rfl⟩) ⟨fun _ _ _ => rfl, xg5, xg6⟩ hR2
        | exact hcut f1 g26 (Or.inr ⟨fun z => hc53 (by rw [z.2]; rfl), rfl⟩) ⟨fun _ _ _ => rfl, xg5, xg6⟩ hR2
        | (have hk1 : tKn n b (psT n b a1) = 1 := nI_inj (by have := tKn_le (n := n) (b := b) (p := psT n b a1); omega) (by decide) hc40
           have hv1 : tVo n b (psT n b a1) = some v1 := by
             have hb1 := (N1.le (Or.inr rfl)).2.2
             cases q : tVo n b (psT n b a1) with
             | none => rw [q] at hc53; exact absurd (show (oI none) < 0 by decide) (by rw [hc53]; exact nI_pos (by omega))
             | some z =>
               have hz := tVo_lt hR2 q
               rw [q] at hc53
               rw [nI_inj (by omega) (by omega) hc53]
           exact hcut _ _ (Or.inl ⟨⟨hk1, hv1⟩, rfl⟩) F2 (hR2.to F2 xam (orF_lt xf (by omega)) (fun _ _ => rfl)))
  · skip
    refine J_aload_0 C dX2_readFears_9 ?_
    refine G_vtv C dX2_readFears_10 (c_X2_fail E hM0 g h T L n b m a none hR0) gX2_readFears_X2_fail rfl dm_X2_fail rfl rfl (hS _ (by decide)) rfl rfl (Nat.le_of_ble_eq_true rfl) (rmOK_b rfl) (fun g10 h10 T10 L10 hp10 => ?_)
    refine hQ _ _ _ dX2_readFears_13 ⟨_, _, _, _, rfl, ?_⟩
    obtain ⟨hF, rfl, rfl, rfl⟩ := hp10
    have h7s : 8 ≤ s.2.2.1 := by
      rw [show g (100 * 13 + 2) = nI s.2.2.1 from w2] at hc6
      rcases Nat.lt_or_ge s.2.2.1 8 with q | q
      · exact absurd (nI_lt (b := 8) q (by decide)) hc6
      · exact q
    refine ⟨⟨hF.toI, Or.inr ⟨psT n b a, ?_, by omega, hF.2.2⟩⟩, rfl, rfl⟩
    unfold fearsS
    rw [if_pos h7s]
