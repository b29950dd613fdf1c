theorem law_K {s : State} {args : Array Value} {Ts : List Cond} (hts : ∀ w ∈ Ts, w.before args s = true) (h0 : ∀ x ∈ wsX00, x ∈ Ts) (h1 : ∀ x ∈ wsX10, x ∈ Ts) (h2 : ∀ x ∈ wsX20, x ∈ Ts) (h3 : ∀ x ∈ wsX30, x ∈ Ts) (h4 : ∀ x ∈ wsX40, x ∈ Ts) (h5 : ∀ x ∈ wsX50, x ∈ Ts) (h6 : ∀ x ∈ wsX60, x ∈ Ts)
    (i0 : (Cond.instantiable RX0 7).before args s = true) (i1 : (Cond.instantiable RX1 6).before args s = true) (i2 : (Cond.instantiable RX2 8).before args s = true) (i3 : (Cond.instantiable RX3 15).before args s = true) (i4 : (Cond.instantiable RX4 5).before args s = true) (i5 : (Cond.instantiable RX5 11).before args s = true) (i6 : (Cond.instantiable RX6 39).before args s = true)
    (a0 : (Cond.arrayClass .int).before args s = true) (a1 : (Cond.arrayClass .long).before args s = true) (a2 : (Cond.arrayClass .boolean).before args s = true) (a3 : (Cond.arrayOver (.object RX0)).before args s = true) (a4 : (Cond.arrayOver (.array .long)).before args s = true) : ∃ (dC : Nat → ClassId) (dI : Nat → Nat → Nat) (eC0 : Nat → ClassId), va_K (dC, dI) vwCl (tysOf eC0) s := by
  obtain ⟨c0, s0, k0⟩ := u_known (C := RX0) (T := TX0) (N := 7) (n := 7) hts h0 i0
  obtain ⟨c1, s1, k1⟩ := u_known (C := RX1) (T := TX1) (N := 6) (n := 6) hts h1 i1
  obtain ⟨c2, s2, k2⟩ := u_known (C := RX2) (T := TX2) (N := 8) (n := 8) hts h2 i2
  obtain ⟨c3, s3, k3⟩ := u_known (C := RX3) (T := TX3) (N := 15) (n := 15) hts h3 i3
  obtain ⟨c4, s4, k4⟩ := u_known (C := RX4) (T := TX4) (N := 5) (n := 5) hts h4 i4
  obtain ⟨c5, s5, k5⟩ := u_known (C := RX5) (T := TX5) (N := 11) (n := 11) hts h5 i5
  obtain ⟨c6, s6, k6⟩ := u_known (C := RX6) (T := TX6) (N := 39) (n := 39) hts h6 i6
  obtain ⟨x0, y0, z0, p0, q0, r0⟩ := Cond.arrayClass_spec a0
  obtain ⟨x1, y1, z1, p1, q1, r1⟩ := Cond.arrayClass_spec a1
  obtain ⟨x2, y2, z2, p2, q2, r2⟩ := Cond.arrayClass_spec a2
  obtain ⟨z3, x3, y3, o3, -, q3, r3, p3⟩ := Cond.arrayOver_spec a3
  obtain ⟨z4, x4, y4, -, q4, r4, p4⟩ := Cond.arrayOver_specA a4
  refine ⟨fun k => match k with | 0 => c0 | 1 => c1 | 2 => c2 | 3 => c3 | 4 => c4 | 5 => c5 | _ => c6, fun k => match k with | 0 => s0 | 1 => s1 | 2 => s2 | 3 => s3 | 4 => s4 | 5 => s5 | _ => s6, fun k => match k with | 0 => x0 | 1 => x1 | 2 => x2 | 3 => x3 | _ => x4, fun k q hq => ?_, fun k q hq => ?_⟩
  · match k, hq with
    | 0, hq => cases hq; exact k0
    | 1, hq => cases hq; exact k1
    | 2, hq => cases hq; exact k2
    | 3, hq => cases hq; exact k3
    | 4, hq => cases hq; exact k4
    | 5, hq => cases hq; exact k5
    | 6, hq => cases hq; exact k6
    | k + 7, hq => simp [vwCl] at hq
  · match k, hq with
    | 0, hq => cases hq; exact ⟨fun n z => ⟨fun k h => (by cases h), y0, q0, z0, r0⟩, p0⟩
    | 1, hq => cases hq; exact ⟨fun n z => ⟨fun k h => (by cases h), y1, q1, z1, r1⟩, p1⟩
    | 2, hq => cases hq; exact ⟨fun n z => ⟨fun k h => (by cases h), y2, q2, z2, r2⟩, p2⟩
    | 3, hq => cases hq; exact ⟨fun n z => ⟨fun k h => (by cases h), y3, q3, z3, r3⟩, y3, z3, q3, r3, o3, p3⟩
    | 4, hq => cases hq; exact ⟨fun n z => ⟨fun k h => (by cases h), y4, q4, z4, r4⟩, p4⟩
    | k + 5, hq => simp [tysOf] at hq
abbrev tmS (i : Nat) : Term := .string RX2 (ixS.getD i 0)
set_option maxRecDepth 20000 in
set_option maxHeartbeats 4000000 in
theorem law_SP {s : State} {args : Array Value} (hg : ∀ c ∈ flatC (Jvm.Cond.and given_1 narrow_1), c.before args s = true) (hts : ∀ w ∈ lw_tbl, w.before args s = true) : ∃ V : SV, SP V (fun q => s.heap.size ≤ q) s s.heap := by
  have hA : ∀ a : Nat, a < s.heap.size → ¬ (fun q : Nat => s.heap.size ≤ q) a := fun a h => Nat.not_le.mpr h
  obtain ⟨adK, adV, hS, hev⟩ := vk_Sof (args := args) (s := s) (N := 6) (tm := tmS) (len := lenS) (byt := bytS) (A := fun q => s.heap.size ≤ q) (by decide) (fun i hi => by
    rcases (show i = 0 ∨ i = 1 ∨ i = 2 ∨ i = 3 ∨ i = 4 ∨ i = 5 by omega) with rfl | rfl | rfl | rfl | rfl | rfl <;> exact hg _ (by decide +kernel)) (fun i hi => by
    rcases (show i = 0 ∨ i = 1 ∨ i = 2 ∨ i = 3 ∨ i = 4 ∨ i = 5 by omega) with rfl | rfl | rfl | rfl | rfl | rfl <;> exact hg _ (by decide +kernel)) (fun i hi => by
    rcases (show i = 0 ∨ i = 1 ∨ i = 2 ∨ i = 3 ∨ i = 4 ∨ i = 5 by omega) with rfl | rfl | rfl | rfl | rfl | rfl <;> exact hg _ (by decide +kernel)) (fun i hi => by
    rcases (show i = 0 ∨ i = 1 ∨ i = 2 ∨ i = 3 ∨ i = 4 ∨ i = 5 by omega) with rfl | rfl | rfl | rfl | rfl | rfl <;> exact hg _ (by decide +kernel)) (fun i hi j hj => by
    rcases (show i = 0 ∨ i = 1 ∨ i = 2 ∨ i = 3 ∨ i = 4 ∨ i = 5 by omega) with rfl | rfl | rfl | rfl | rfl | rfl
    · have hj : j < 5 := hj
      rcases (show j = 0 ∨ j = 1 ∨ j = 2 ∨ j = 3 ∨ j = 4 by omega) with rfl | rfl | rfl | rfl | rfl <;> exact hg _ (by decide +kernel)
    · have hj : j < 5 := hj
      rcases (show j = 0 ∨ j = 1 ∨ j = 2 ∨ j = 3 ∨ j = 4 by omega) with rfl | rfl | rfl | rfl | rfl <;> exact hg _ (by decide +kernel)
    · have hj : j < 5 := hj
      rcases (show j = 0 ∨ j = 1 ∨ j = 2 ∨ j = 3 ∨ j = 4 by omega) with rfl | rfl | rfl | rfl | rfl <;> exact hg _ (by decide +kernel)
    · have hj : j < 4 := hj
      rcases (show j = 0 ∨ j = 1 ∨ j = 2 ∨ j = 3 by omega) with rfl | rfl | rfl | rfl <;> exact hg _ (by decide +kernel)
    · have hj : j < 4 := hj
      rcases (show j = 0 ∨ j = 1 ∨ j = 2 ∨ j = 3 by omega) with rfl | rfl | rfl | rfl <;> exact hg _ (by decide +kernel)
    · have hj : j < 5 := hj
      rcases (show j = 0 ∨ j = 1 ∨ j = 2 ∨ j = 3 ∨ j = 4 by omega) with rfl | rfl | rfl | rfl | rfl <;> exact hg _ (by decide +kernel)) (fun i j hi hj hij => by
    rcases (show i = 0 ∨ i = 1 ∨ i = 2 ∨ i = 3 ∨ i = 4 ∨ i = 5 by omega) with rfl | rfl | rfl | rfl | rfl | rfl <;> rcases (show j = 0 ∨ j = 1 ∨ j = 2 ∨ j = 3 ∨ j = 4 ∨ j = 5 by omega) with rfl | rfl | rfl | rfl | rfl | rfl <;> first | exact absurd rfl hij | exact Or.inl (hg _ (by decide +kernel)) | exact Or.inr (hg _ (by decide +kernel))) hA
  have hR : ∀ i, i < 6 → vk_R RX2 (ixS.getD i 0) (txS.getD i "") (adK i) s := fun i hi => vk_R.of (A := args) (by
    rcases (show i = 0 ∨ i = 1 ∨ i = 2 ∨ i = 3 ∨ i = 4 ∨ i = 5 by omega) with rfl | rfl | rfl | rfl | rfl | rfl <;> exact hts _ (by decide +kernel)) (hev i hi)
  have hZC : ZC (fun q => s.heap.size ≤ q) s s.heap := va_Zof (hts _ (by decide +kernel)) (hts _ (by decide +kernel)) (va_eqt (hg _ (by decide +kernel))) hA
  rcases va_Zqof (args := args) (C := "jdk/internal/util/Preconditions") (n := "SIOOBE_FORMATTER") (d := "Ljava/util/function/BiFunction;") (A := fun q => s.heap.size ≤ q) (hts _ (by decide +kernel)) (hts _ (by decide +kernel)) (hg _ (by decide +kernel)) hA with hz | ⟨t, hz⟩
  · exact ⟨(adK, adV, .null), hS, hR, hZC, hz, rfl⟩
  · exact ⟨(adK, adV, .ref t), hS, hR, hZC, hz, rfl⟩
theorem cellG_tk {E : EN} {g : Nat → Int32} {h : Nat → Int64} {T T2 : Nat → Nat → Int32} {L : Nat → Nat → Int64} {k : Nat} (e : T k = T2 k) : cellG E g h T L k = cellG E g h T2 L k := by
  unfold cellG
  split
  · rfl
  · rw [e]
  · rfl
  · rw [e]
  · rfl
  · rfl
def T0B (T : Nat → Nat → Int32) : Nat → Nat → Int32 := fun k => if k < 48 then T k else fun _ => 0
theorem T0B_lo {T : Nat → Nat → Int32} {k : Nat} (h : k < 48) : T0B T k = T k := if_pos h
theorem T0B_hi {T : Nat → Nat → Int32} {k : Nat} (h : 48 ≤ k) : T0B T k = fun _ => 0 := if_neg (Nat.not_lt.mpr h)
set_option maxRecDepth 20000 in
theorem Sa0 {T : Nat → Nat → Int32} (t11 : T 11 0 = 0) (t12 : T 12 0 = 1) (t24 : T 24 = fun _ => 0) : Sa gB h0I (T0B T) := by
  refine ⟨0, fun _ _ => 0, 0, 2, 5, 0, 0, fun _ => 0, (0, 9, 0, 1, []), [], fun _ => none, ⟨⟨by decide, by decide +kernel, by decide +kernel, by decide +kernel, by decide +kernel, fun t ht => absurd ht (Nat.not_lt_zero t), fun b hb => ?_, fun b hb => ?_, fun t ht => absurd ht (Nat.not_lt_zero t)⟩, ⟨by decide +kernel, by decide +kernel, by decide +kernel, by decide +kernel⟩, ⟨by decide +kernel, fun i hi => absurd hi (Nat.not_lt_zero i)⟩, ⟨by decide +kernel, by decide +kernel, by decide +kernel, by decide +kernel, by decide +kernel, fun i q hq => by simp at hq⟩, ⟨by decide +kernel, fun i q hq => by simp at hq⟩, fun i hi => ?_⟩, ⟨⟨by decide, by decide +kernel, fun t ht => absurd ht (Nat.not_lt_zero t), fun t ht => absurd ht (Nat.not_lt_zero t)⟩, ⟨by decide +kernel, by decide +kernel, by decide +kernel, by decide +kernel⟩, ⟨by decide +kernel, fun i hi => absurd hi (Nat.not_lt_zero i)⟩, ⟨by decide +kernel, by decide +kernel, by decide +kernel, by decide +kernel, by decide +kernel, fun i q hq => by simp at hq⟩, ⟨by decide +kernel, fun i q hq => by simp at hq⟩, fun i hi => ?_⟩, ⟨⟨by decide, by decide⟩, ⟨fun x y hx => absurd hx (Nat.not_lt_zero x), fun x hx => absurd hx (Nat.not_lt_zero x)⟩, ⟨by decide, fun i hi => absurd hi (Nat.not_lt_zero i)⟩, ⟨by decide, by decide, by decide, by decide, fun i q hq => by simp at hq⟩, ⟨by decide, fun i q hq => by simp at hq⟩, fun i ν hν => by cases hν⟩, rfl⟩
  · have hb0 : b = 0 := by have : (2 : Nat) ^ 0 = 1 := rfl; omega
    subst hb0
    rw [T0B_lo (by decide)]
    exact t11
  · have hb0 : b = 0 := by have : (2 : Nat) ^ 0 = 1 := rfl; omega
    subst hb0
    rw [T0B_lo (by decide)]
    exact t12
  · show T0B T 24 i = 0
    rw [T0B_lo (by decide), t24]
  · show T0B T 58 (30 * i) = 0
    rw [T0B_hi (by decide)]
set_option maxHeartbeats 4000000 in
set_option maxRecDepth 100000 in
/-- from the entry, for every script of at most 2048 ints, the law comes to its end with true -/
theorem whole_start {p : Program} {e : Env} {s : State} {m : MethodId} {below : List Frame} {meth : Method} {c : Code} (l : Launch) (hflags : l.flags = flags0) {b L : Nat} {xs : Nat → Int32} (hL : L ≤ 2048) (C0 : lw_At p s m meth c b L xs) : W p l e room_1 s m #[Value.ref b] below meth c s.heap [] 0 0 (lw_Z below #[Value.ref b] s) (entryFrame m ([Value.ref b] : List Value).toArray 4) := by
  obtain ⟨hx, hb, hr, hml, hown, hts, hX, hbl, hlocks, hgv⟩ := id C0
  have htw : ∀ w ∈ wsL_law, w.before #[Value.ref b] s = true := fun w h => hts w (wsL_law_in w h)
  have hg := flat_of_before _ hgv
  obtain ⟨dC, dI, eC0, hK⟩ := law_K htw inlX0 inlX1 inlX2 inlX3 inlX4 inlX5 inlX6 (hts _ (by decide +kernel)) (hts _ (by decide +kernel)) (hts _ (by decide +kernel)) (hts _ (by decide +kernel)) (hts _ (by decide +kernel)) (hts _ (by decide +kernel)) (hts _ (by decide +kernel)) (hts _ (by decide +kernel)) (hts _ (by decide +kernel)) (hts _ (by decide +kernel)) (hts _ (by decide +kernel)) (hts _ (by decide +kernel))
  obtain ⟨V, hSP⟩ := law_SP hg hts
  have hZ : ZW s := ⟨va_Nw.of rfl (hts (.methodLinkNest RX5 19 yX2_init RX5) (by decide +kernel)), va_Nw.of rfl (hts (.methodLinkNest RX5 36 yX0_init RX5) (by decide +kernel)), va_Nw.of rfl (hts (.methodLinkNest RX5 51 yX1_init RX5) (by decide +kernel)), va_Nw.of rfl (hts (.methodLinkNest RX5 58 yX4_init RX5) (by decide +kernel)), hts (.arrayOver (.object RX0)) (by decide +kernel), hts (.arrayOver (.array .long)) (by decide +kernel)⟩
  obtain ⟨E, hE0⟩ : ∃ E : EN, E = (l, (dC, dI), eC0, (fun k => s.heap.size + k), 68, (fun k => decide (k < 68)), fun _ => .inr (0, [])) := ⟨_, rfl⟩
  have hM : EM E := by
    subst hE0
    exact ⟨fun k hk => decide_eq_true hk, fun k h => of_decide_eq_true h⟩
  have hN68 : eN E = 68 := by subst hE0; rfl
  have hEl : eL E = l := by subst hE0; rfl
  have hEa : ∀ k, eA E k = s.heap.size + k := by subst hE0; exact fun _ => rfl
  have C : Cx E (lawY p e s m below meth c b) code 4 RL wsL_law room_1 := by
    subst hE0
    exact ⟨hx, hb, hml, rfl, hown, htw, hK, rfl, fun q h => h, fun k h => of_decide_eq_true h⟩
  clear hE0
  have hZ : ZW (ys (lawY p e s m below meth c b)) := hZ
  have hl := lvH_entry (av := [Value.ref b]) (n := 4) (lv := lvA [Value.ref b] ++ List.replicate 3 none) (Nat.le_of_ble_eq_true rfl) (fun i v h => lv_pad h)
  rw [lg_entry_eq]
  generalize (lg_sl ([Value.ref b]) ++ List.replicate (4 - (lg_sl ([Value.ref b])).length) Slot.unset).toArray = ls at hl ⊢
  have J0 : J E (lawY p e s m below meth c b) 0 0 0 (fun _ => .inr (0, [])) 0 [some (.ref b), none, none, none] [] := by
    refine J_new C (ci := 5) (T := TX5) (N0 := 11) (Cn := RX5) dL_law_0 (by decide +kernel : Cond.classLink RL 7 RX5 ∈ wsL_law) (by decide +kernel : Cond.instantiable RX5 11 ∈ wsL_law) (by decide +kernel : Cond.initialized RX5 ∈ wsL_law) inlX5 tyX5 tyX5_ok rfl dfX5 (Nat.le_of_ble_eq_true rfl) (Nat.le_of_ble_eq_true rfl) ?_
    refine J_wc (w' := wL (fun _ => .inr (0, [])) 0 5 [.null, .int 0, .null, .null, .null, .null, .null, .null, .null, .null, .long 0] []) (fun k hk => by rw [show k = 0 by omega, wL_r]; rfl) ?_
    refine J_dup C dL_law_3 ?_
    refine J_isp C hZ dL_law_4 (c_X5_init E hM.2 _) gL_law_X5_init rfl (by decide +kernel : Cond.initialized yX5_init.cls ∈ wsL_law) (by decide +kernel : Cond.methodLink RL 9 yX5_init ∈ wsL_law) (by decide +kernel : Cond.instanceMethod yX5_init ∈ wsL_law) rfl dmc_X5_init (by decide) rfl rfl (Nat.le_of_ble_eq_true rfl) (rmOK_b rfl) (fun w2 hw2 => ?_)
    obtain ⟨T, hcell, t11, t12, t24⟩ := hw2
    refine J_astore_1 C dL_law_7 (by decide) trivial ?_
    refine J_new C (ci := 6) (T := TX6) (N0 := 39) (Cn := RX6) dL_law_8 (by decide +kernel : Cond.classLink RL 10 RX6 ∈ wsL_law) (by decide +kernel : Cond.instantiable RX6 39 ∈ wsL_law) (by decide +kernel : Cond.initialized RX6 ∈ wsL_law) inlX6 tyX6 tyX6_ok rfl dfX6 (Nat.le_of_ble_eq_true rfl) (Nat.le_of_ble_eq_true rfl) ?_
    refine J_wc (w' := wL w2 48 6 [.null, .int 0, .int 0, .int 0, .null, .null, .null, .null, .int 0, .int 0, .int 0, .int 0, .int 0, .int 0, .int 0, .int 0, .null, .int 0, .null, .null, .null, .null, .long 0, .int 0, .int 0, .int 0, .long 0, .int 0, .int 0, .null, .null, .null, .null, .null, .int 0, .null, .null, .null, .null] []) (fun k hk => ?_) ?_
    · by_cases h48 : k = 48
      · rw [h48, wL_r]; rfl
      · rw [wL_lt (by omega)]
        exact if_neg h48
    refine J_dup C dL_law_11 ?_
    refine J_isp C hZ dL_law_12 (c_X6_init E hM.2 _) gL_law_X6_init rfl (by decide +kernel : Cond.initialized yX6_init.cls ∈ wsL_law) (by decide +kernel : Cond.methodLink RL 12 yX6_init ∈ wsL_law) (by decide +kernel : Cond.instanceMethod yX6_init ∈ wsL_law) rfl dmc_X6_init (by decide) rfl rfl (Nat.le_of_ble_eq_true rfl) (rmOK_b rfl) (fun w3 hw3 => ?_)
    subst hw3
    refine J_astore_2 C dL_law_15 (by decide) trivial ?_
    refine J_iconst C (0) dL_law_16 ic_0 ?_
    refine J_istore_3 C dL_law_17 (by decide) trivial ?_
    refine J_wc (w' := wS E gB h0I (T0B T) L0I) (fun k hk => ?_) ?_
    · by_cases h48 : k < 48
      · rw [wL_lt h48, hcell k h48, cellG_tk (T2 := T0B T) (T0B_lo h48).symm]
        unfold wS
        rw [if_pos (hM.1 k (by omega))]
      · rcases (show k = 48 ∨ k = 49 ∨ k = 50 ∨ k = 51 ∨ k = 52 ∨ k = 53 ∨ k = 54 ∨ k = 55 ∨ k = 56 ∨ k = 57 ∨ k = 58 ∨ k = 59 ∨ k = 60 ∨ k = 61 ∨ k = 62 ∨ k = 63 ∨ k = 64 ∨ k = 65 ∨ k = 66 ∨ k = 67 by omega) with rfl | rfl | rfl | rfl | rfl | rfl | rfl | rfl | rfl | rfl | rfl | rfl | rfl | rfl | rfl | rfl | rfl | rfl | rfl | rfl
        · exact wL_r.trans (wS_obj (E := E) (g := gB) (h := h0I) (T := T0B T) (L := L0I) (k := 48) (ci := 6) rfl (hM.1 48 (by decide))).symm
        · exact (wL_at 0 _ rfl).trans ((show (Sum.inl (eC E 0, 200, Sum.inl (fun _ => 0)) : va_E) = Sum.inl (eC E 0, 200, Sum.inl (T0B T 49)) by rw [T0B_hi (by decide)]).trans (wS_int (E := E) (g := gB) (h := h0I) (T := T0B T) (L := L0I) (k := 49) (n := 200) rfl (hM.1 49 (by decide))).symm)
        · exact (wL_at 1 _ rfl).trans ((show (Sum.inl (eC E 0, 7, Sum.inl (fun _ => 0)) : va_E) = Sum.inl (eC E 0, 7, Sum.inl (T0B T 50)) by rw [T0B_hi (by decide)]).trans (wS_int (E := E) (g := gB) (h := h0I) (T := T0B T) (L := L0I) (k := 50) (n := 7) rfl (hM.1 50 (by decide))).symm)
        · exact (wL_at 2 _ rfl).trans ((show (Sum.inl (eC E 0, 7, Sum.inl (fun _ => 0)) : va_E) = Sum.inl (eC E 0, 7, Sum.inl (T0B T 51)) by rw [T0B_hi (by decide)]).trans (wS_int (E := E) (g := gB) (h := h0I) (T := T0B T) (L := L0I) (k := 51) (n := 7) rfl (hM.1 51 (by decide))).symm)
        · exact (wL_at 3 _ rfl).trans ((show (Sum.inl (eC E 0, 7, Sum.inl (fun _ => 0)) : va_E) = Sum.inl (eC E 0, 7, Sum.inl (T0B T 52)) by rw [T0B_hi (by decide)]).trans (wS_int (E := E) (g := gB) (h := h0I) (T := T0B T) (L := L0I) (k := 52) (n := 7) rfl (hM.1 52 (by decide))).symm)
        · exact (wL_at 4 _ rfl).trans ((show (Sum.inl (eC E 0, 7, Sum.inl (fun _ => 0)) : va_E) = Sum.inl (eC E 0, 7, Sum.inl (T0B T 53)) by rw [T0B_hi (by decide)]).trans (wS_int (E := E) (g := gB) (h := h0I) (T := T0B T) (L := L0I) (k := 53) (n := 7) rfl (hM.1 53 (by decide))).symm)
        · exact (wL_at 5 _ rfl).trans ((show (Sum.inl (eC E 0, 20, Sum.inl (fun _ => 0)) : va_E) = Sum.inl (eC E 0, 20, Sum.inl (T0B T 54)) by rw [T0B_hi (by decide)]).trans (wS_int (E := E) (g := gB) (h := h0I) (T := T0B T) (L := L0I) (k := 54) (n := 20) rfl (hM.1 54 (by decide))).symm)
        · exact (wL_at 6 _ rfl).trans ((show (Sum.inl (eC E 0, 8, Sum.inl (fun _ => 0)) : va_E) = Sum.inl (eC E 0, 8, Sum.inl (T0B T 55)) by rw [T0B_hi (by decide)]).trans (wS_int (E := E) (g := gB) (h := h0I) (T := T0B T) (L := L0I) (k := 55) (n := 8) rfl (hM.1 55 (by decide))).symm)
        · exact (wL_at 7 _ rfl).trans ((show (Sum.inl (eC E 0, 8, Sum.inl (fun _ => 0)) : va_E) = Sum.inl (eC E 0, 8, Sum.inl (T0B T 56)) by rw [T0B_hi (by decide)]).trans (wS_int (E := E) (g := gB) (h := h0I) (T := T0B T) (L := L0I) (k := 56) (n := 8) rfl (hM.1 56 (by decide))).symm)
        · exact (wL_at 8 _ rfl).trans ((show (Sum.inl (eC E 0, 8, Sum.inl (fun _ => 0)) : va_E) = Sum.inl (eC E 0, 8, Sum.inl (T0B T 57)) by rw [T0B_hi (by decide)]).trans (wS_int (E := E) (g := gB) (h := h0I) (T := T0B T) (L := L0I) (k := 57) (n := 8) rfl (hM.1 57 (by decide))).symm)
        · exact (wL_at 9 _ rfl).trans ((show (Sum.inl (eC E 0, 60, Sum.inl (fun _ => 0)) : va_E) = Sum.inl (eC E 0, 60, Sum.inl (T0B T 58)) by rw [T0B_hi (by decide)]).trans (wS_int (E := E) (g := gB) (h := h0I) (T := T0B T) (L := L0I) (k := 58) (n := 60) rfl (hM.1 58 (by decide))).symm)
        · exact (wL_at 10 _ rfl).trans ((show (Sum.inl (eC E 0, 28, Sum.inl (fun _ => 0)) : va_E) = Sum.inl (eC E 0, 28, Sum.inl (T0B T 59)) by rw [T0B_hi (by decide)]).trans (wS_int (E := E) (g := gB) (h := h0I) (T := T0B T) (L := L0I) (k := 59) (n := 28) rfl (hM.1 59 (by decide))).symm)
        · exact (wL_at 11 _ rfl).trans ((show (Sum.inl (eC E 0, 7, Sum.inl (fun _ => 0)) : va_E) = Sum.inl (eC E 0, 7, Sum.inl (T0B T 60)) by rw [T0B_hi (by decide)]).trans (wS_int (E := E) (g := gB) (h := h0I) (T := T0B T) (L := L0I) (k := 60) (n := 7) rfl (hM.1 60 (by decide))).symm)
        · exact (wL_at 12 _ rfl).trans ((show (Sum.inl (eC E 0, 4, Sum.inl (fun _ => 0)) : va_E) = Sum.inl (eC E 0, 4, Sum.inl (T0B T 61)) by rw [T0B_hi (by decide)]).trans (wS_int (E := E) (g := gB) (h := h0I) (T := T0B T) (L := L0I) (k := 61) (n := 4) rfl (hM.1 61 (by decide))).symm)
        · exact (wL_at 13 _ rfl).trans ((show (Sum.inl (eC E 0, 256, Sum.inl (fun _ => 0)) : va_E) = Sum.inl (eC E 0, 256, Sum.inl (T0B T 62)) by rw [T0B_hi (by decide)]).trans (wS_int (E := E) (g := gB) (h := h0I) (T := T0B T) (L := L0I) (k := 62) (n := 256) rfl (hM.1 62 (by decide))).symm)
        · exact (wL_at 14 _ rfl).trans ((show (Sum.inl (eC E 0, 256, Sum.inl (fun _ => 0)) : va_E) = Sum.inl (eC E 0, 256, Sum.inl (T0B T 63)) by rw [T0B_hi (by decide)]).trans (wS_int (E := E) (g := gB) (h := h0I) (T := T0B T) (L := L0I) (k := 63) (n := 256) rfl (hM.1 63 (by decide))).symm)
        · exact (wL_at 15 _ rfl).trans ((show (Sum.inl (eC E 2, 256, Sum.inl (fun _ => 0)) : va_E) = Sum.inl (eC E 2, 256, Sum.inl (T0B T 64)) by rw [T0B_hi (by decide)]).trans (wS_bool (E := E) (g := gB) (h := h0I) (T := T0B T) (L := L0I) (k := 64) (n := 256) rfl (hM.1 64 (by decide))).symm)
        · exact (wL_at 16 _ rfl).trans ((show (Sum.inl (eC E 0, 256, Sum.inl (fun _ => 0)) : va_E) = Sum.inl (eC E 0, 256, Sum.inl (T0B T 65)) by rw [T0B_hi (by decide)]).trans (wS_int (E := E) (g := gB) (h := h0I) (T := T0B T) (L := L0I) (k := 65) (n := 256) rfl (hM.1 65 (by decide))).symm)
        · exact (wL_at 17 _ rfl).trans (wS_long (E := E) (g := gB) (h := h0I) (T := T0B T) (L := L0I) (k := 66) (n := 256) rfl (hM.1 66 (by decide))).symm
        · exact (wL_at 18 _ rfl).trans (wS_long (E := E) (g := gB) (h := h0I) (T := T0B T) (L := L0I) (k := 67) (n := 256) rfl (hM.1 67 (by decide))).symm
    have hfin := law_loop hL C0 V hSP (L + 1) 0 E C hM gB h0I (T0B T) L0I (by omega) (by omega) (Sa0 t11 t12 t24)
    rw [hN68] at hfin
    exact hfin
  have hJ := J0 s.heap [] ls ⟨fun k q h => absurd (wsF_of h).1 (Nat.not_lt_zero k), fun i j hi => absurd hi (Nat.not_lt_zero i), fun i hi => absurd hi (Nat.not_lt_zero i), fun k => by rw [hEa]; show s.heap.size + (0 + k) = s.heap.size + k; omega, va_S.rf⟩ hl
  rw [hEl] at hJ
  exact hJ
