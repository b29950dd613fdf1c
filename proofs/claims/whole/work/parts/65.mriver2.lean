/-! the model reads a river -/
theorem J_gen {E : EN} {Y : YN} {N cs ss pc : Nat} {g : Nat → Int32} {h : Nat → Int64} {T : Nat → Nat → Int32} {L : Nat → Nat → Int64} {lv : List (Option Value)} {st : List Value} (kk : ∀ G, G = g → J E Y N cs ss (wS E G h T L) pc lv st) : J E Y N cs ss (wS E g h T L) pc lv st := kk _ rfl
theorem sh01 : ∀ c, c < 2 → ∀ t, t < 7 → nI c <<< (nI t &&& 31) = nI (if c = 1 then 2 ^ t else 0) := by decide +kernel
theorem or_oI {o : Option Nat} {v : Nat} (hb : ∀ x, o = some x → x < 256) : (if oI o < 0 then nI v else oI o) = nI (o.getD v) := by
  cases o with
  | none => rw [if_pos (by decide)]; rfl
  | some x =>
    rw [show oI (some x) = nI x from rfl, if_neg (nI_pos (by have := hb x rfl; omega))]; rfl
def RyM (g2 : Nat → Int32) (T T2 : Nat → Nat → Int32) (s : RS) : Prop := g2 4802 = nI s.1 ∧ g2 4803 = nI s.2.2.1 ∧ g2 4810 = nI (stN s) ∧ g2 4811 = nI (stN s) ∧ g2 4808 = nI ((s.2.2.2 1).getD 2) ∧ g2 4812 = nI ((s.2.2.2 2).getD 9) ∧ g2 4809 = nI ((s.2.2.2 3).getD 5) ∧ g2 4813 = 0 ∧ g2 4815 = 0 ∧ g2 4817 = 0 ∧ g2 4801 = 0 ∧
  (∀ t, t < s.1 → T2 50 t = nI (s.2.1 0 t) ∧ T2 51 t = nI (s.2.1 1 t) ∧ T2 52 t = nI (s.2.1 2 t) ∧ T2 53 t = nI (s.2.1 3 t)) ∧ (∀ j, T2 58 j = if j = 0 ∨ j = 30 then 0 else T 58 j)
def FrY (g g2 : Nat → Int32) (h h2 : Nat → Int64) (T T2 : Nat → Nat → Int32) : Prop := (∀ k, (k < 4801 ∨ 4828 < k ∨ k = 4814 ∨ k = 4816 ∨ k = 4818 ∨ k = 4822) → g2 k = g k) ∧ (∀ k, k ≠ 4826 → h2 k = h k) ∧ ∀ c, (c < 50 ∨ 61 < c ∨ (53 < c ∧ c < 58)) → T2 c = T c
theorem oB {s : RS} (hO : RsOK s) : (∀ x, s.2.2.2 0 = some x → x < 256) ∧ (∀ x, s.2.2.2 1 = some x → x < 256) ∧ (∀ x, s.2.2.2 2 = some x → x < 256) ∧ (∀ x, s.2.2.2 3 = some x → x < 256) := by
  obtain ⟨_, _, _, _, _, a6, a7, a8, a9⟩ := hO
  exact ⟨fun x hx => by have := a6 x hx; omega, fun x hx => by have := a7 x hx; omega, fun x hx => by have := a8 x hx; omega, fun x hx => by have := a9 x hx; omega⟩
theorem fer_i {s : RS} (hO : RsOK s) : nI ((s.2.2.2 0).getD 0) * 128 = nI (if s.2.2.2 0 = some 1 then 128 else 0) := by
  cases q : s.2.2.2 0 with
  | none => decide
  | some v =>
    have := hO.2.2.2.2.2.1 v q
    rcases (show v = 0 ∨ v = 1 by omega) with e | e <;> subst e <;> decide
theorem ix4 {t k : Nat} : (4 : Int32) * nI t + nI k = nI (4 * t + k) := by rw [show (4 : Int32) = nI 4 by decide, pk_mul, nI_add]
theorem ix40 {t : Nat} : (4 : Int32) * nI t = nI (4 * t) := by rw [show (4 : Int32) = nI 4 by decide, pk_mul]
abbrev rmX6_or : Room := { frames := 0, cells := 0, slots := 0, locals := 0 }
set_option maxRecDepth 100000 in
set_option maxHeartbeats 4000000 in
theorem c_X6_or (E : EN) (hM : EM E) (g : Nat → Int32) (h : Nat → Int64) (T : Nat → Nat → Int32) (L : Nat → Nat → Int64) (x y : Int32) : GpI E yX6_or wsX6_or rmX6_or [.int x, .int y] g h T L (fun r => r = if x < 0 then y else x) := by
  refine CtI_of (cc := cX6_or) (nL := 2) RX6 [some (.int x), some (.int y)] ⟨rfl, rfl⟩ (by decide) rfl rfl (Nat.le_of_ble_eq_true rfl) ⟨0, rfl⟩ hM.2 (fun Y C hQ => ?_)
  refine J_iload_0 C dX6_or_0 ?_
  refine J_if_ge C 8 dX6_or_1 (by decide) (fun hc1 => ?_) (fun hc1 => ?_)
  · skip
    refine J_iload_0 C dX6_or_8 ?_
    refine hQ _ _ _ _ dX6_or_9 ⟨rfl, ?_⟩
    first
    | rw [if_pos (Int32.not_le.mp hc1)]
    | rw [if_neg (Int32.not_lt.mpr hc1)]
  · skip
    refine J_iload_1 C dX6_or_4 ?_
    refine J_goto C 9 dX6_or_5 (by decide) ?_
    refine hQ _ _ _ _ dX6_or_9 ⟨rfl, ?_⟩
    first
    | rw [if_pos (Int32.not_le.mp hc1)]
    | rw [if_neg (Int32.not_lt.mpr hc1)]
abbrev rmX6_river : Room := { frames := 5, cells := 0, slots := 0, locals := 106 }
theorem fX6_river_13 : Cond.fieldLink RX6 13 RX6 (TX6 4).2.1 (TX6 4).2.2.1 ∈ wsX6_river := by decide +kernel
theorem fX6_river_131 : Cond.fieldLink RX6 131 RX6 (TX6 27).2.1 (TX6 27).2.2.1 ∈ wsX6_river := by decide +kernel
theorem fX6_river_142 : Cond.fieldLink RX6 142 RX6 (TX6 28).2.1 (TX6 28).2.2.1 ∈ wsX6_river := by decide +kernel
theorem fX6_river_16 : Cond.fieldLink RX6 16 RX6 (TX6 5).2.1 (TX6 5).2.2.1 ∈ wsX6_river := by decide +kernel
theorem fX6_river_170 : Cond.fieldLink RX6 170 RX6 (TX6 3).2.1 (TX6 3).2.2.1 ∈ wsX6_river := by decide +kernel
theorem fX6_river_177 : Cond.fieldLink RX6 177 RX6 (TX6 10).2.1 (TX6 10).2.2.1 ∈ wsX6_river := by decide +kernel
theorem fX6_river_180 : Cond.fieldLink RX6 180 RX6 (TX6 11).2.1 (TX6 11).2.2.1 ∈ wsX6_river := by decide +kernel
theorem fX6_river_183 : Cond.fieldLink RX6 183 RX6 (TX6 13).2.1 (TX6 13).2.2.1 ∈ wsX6_river := by decide +kernel
theorem fX6_river_186 : Cond.fieldLink RX6 186 RX6 (TX6 15).2.1 (TX6 15).2.2.1 ∈ wsX6_river := by decide +kernel
theorem fX6_river_189 : Cond.fieldLink RX6 189 RX6 (TX6 17).2.1 (TX6 17).2.2.1 ∈ wsX6_river := by decide +kernel
theorem fX6_river_19 : Cond.fieldLink RX6 19 RX6 (TX6 6).2.1 (TX6 6).2.2.1 ∈ wsX6_river := by decide +kernel
theorem fX6_river_22 : Cond.fieldLink RX6 22 RX6 (TX6 7).2.1 (TX6 7).2.2.1 ∈ wsX6_river := by decide +kernel
theorem fX6_river_25 : Cond.fieldLink RX6 25 RX6 (TX6 8).2.1 (TX6 8).2.2.1 ∈ wsX6_river := by decide +kernel
theorem fX6_river_29 : Cond.fieldLink RX6 29 RX6 (TX6 9).2.1 (TX6 9).2.2.1 ∈ wsX6_river := by decide +kernel
theorem fX6_river_32 : Cond.fieldLink RX6 32 RX6 (TX6 12).2.1 (TX6 12).2.2.1 ∈ wsX6_river := by decide +kernel
theorem fX6_river_50 : Cond.fieldLink RX6 50 RX6 (TX6 21).2.1 (TX6 21).2.2.1 ∈ wsX6_river := by decide +kernel
theorem fX6_river_53 : Cond.fieldLink RX6 53 RX6 (TX6 29).2.1 (TX6 29).2.2.1 ∈ wsX6_river := by decide +kernel
theorem fX6_river_56 : Cond.fieldLink RX6 56 RX6 (TX6 30).2.1 (TX6 30).2.2.1 ∈ wsX6_river := by decide +kernel
theorem fX6_river_59 : Cond.fieldLink RX6 59 RX6 (TX6 31).2.1 (TX6 31).2.2.1 ∈ wsX6_river := by decide +kernel
theorem fX6_river_82 : Cond.fieldLink RX6 82 RX6 (TX6 2).2.1 (TX6 2).2.2.1 ∈ wsX6_river := by decide +kernel
theorem fX6_river_91 : Cond.fieldLink RX6 91 RX6 (TX6 1).2.1 (TX6 1).2.2.1 ∈ wsX6_river := by decide +kernel
theorem fX6_river_99 : Cond.fieldLink RX6 99 RX6 (TX6 24).2.1 (TX6 24).2.2.1 ∈ wsX6_river := by decide +kernel
theorem iX6_river_6 : ∀ x ∈ wsX60, x ∈ wsX6_river := by decide +kernel
theorem dm_X6_or : yX6_or.cls ≠ "java/lang/invoke/MethodHandle" ∧ yX6_or.cls ≠ "java/lang/invoke/VarHandle" ∧ (parseMethodDescriptor yX6_or.desc).map (fun d => d.parameters.length) = some 2 := by decide +kernel
theorem dm_X6_takesAll : yX6_takesAll.cls = RX6 ∧ yX6_takesAll.cls ≠ "java/lang/invoke/MethodHandle" ∧ yX6_takesAll.cls ≠ "java/lang/invoke/VarHandle" ∧ (parseMethodDescriptor yX6_takesAll.desc).map (fun d => d.parameters.length) = some 0 := by decide +kernel
theorem bc_30 : (Int8.ofInt (30)).toInt32 = (30) := by decide
set_option maxRecDepth 100000 in
set_option maxHeartbeats 4000000 in
theorem c_X6_river (E : EN) (hM : EM E) (g : Nat → Int32) (h : Nat → Int64) (T : Nat → Nat → Int32) (L : Nat → Nat → Int64) (n : Nat) (b : Nat → Nat) (hX : MtX g T n b) : GtI E yX6_river wsX6_river rmX6_river [.ref (eA E 48)] g h T L (fun r g2 h2 T2 L2 => ((∃ s k, readS n b = .ok (s, k) ∧ k ≤ 200 ∧ r = nI k ∧ RsOK s ∧ RyM g2 T T2 s ∧ FrY g g2 h h2 T T2) ∨ (∃ e, readS n b = .error e ∧ r = -10 - nI e ∧ FrQ g g2 h h2 T T2)) ∧ L2 = L) := by
  refine CtI_of (cc := cX6_river) (nL := 3) RX6 [some (.ref (eA E 48)), none, none] ⟨rfl, rfl⟩ (by decide) rfl rfl (Nat.le_of_ble_eq_true rfl) ⟨2, rfl⟩ hM.2 (fun Y C hQ => ?_)
  have hM0 := hM
  obtain ⟨hS, hNN⟩ := hM
  refine J_aload_0 C dX6_river_0 ?_
  refine G_vti C dX6_river_1 (c_X6_takesAll E hM0 g h T L n b hX) gX6_river_X6_takesAll rfl dm_X6_takesAll rfl rfl (hS _ (by decide)) rfl rfl (Nat.le_of_ble_eq_true rfl) (rmOK_b rfl) (fun r1 g1 h1 T1 L1 hp1 => ?_)
  obtain ⟨⟨hFr, hres⟩, rfl⟩ := hp1
  refine J_istore_1 C dX6_river_4 (by decide) trivial ?_
  refine J_iload_1 C dX6_river_5 ?_
  refine J_if_ge C 17 dX6_river_6 (by decide) (fun hc6 => ?_) (fun hc6 => ?_)
  · skip
    obtain ⟨s, k, e1, e2, e3, hO, v1, v2, v3, v4⟩ := hres.resolve_right (fun ⟨e, _, z, _⟩ => by rw [z] at hc6; exact absurd hc6 (by decide))
    obtain ⟨ob0, ob1, ob2, ob3⟩ := oB hO
    have hm7 := hO.1
    refine J_aload_0 C dX6_river_17 ?_
    refine J_aload_0 C dX6_river_18 ?_
    refine G6_geti C (n := 4827) 27 dX6_river_19 fX6_river_131 iX6_river_6 rfl (hS _ (by decide)) rfl rfl ?_
    refine G6_puti C (n := 4802) 2 dX6_river_22 fX6_river_82 iX6_river_6 rfl (hS _ (by decide)) rfl (tyX6_ok 2 (by decide)) rfl rfl ?_
    refine J_aload_0 C dX6_river_25 ?_
    refine J_aload_0 C dX6_river_26 ?_
    refine G6_geti C (n := 4828) 28 dX6_river_27 fX6_river_142 iX6_river_6 rfl (hS _ (by decide)) rfl rfl ?_
    refine G6_puti C (n := 4803) 3 dX6_river_30 fX6_river_170 iX6_river_6 rfl (hS _ (by decide)) rfl (tyX6_ok 3 (by decide)) rfl rfl ?_
    refine J_aload_0 C dX6_river_33 ?_
    refine J_aload_0 C dX6_river_34 ?_
    refine G6_getr C (n := 61) 31 dX6_river_35 fX6_river_59 iX6_river_6 rfl (hS _ (by decide)) rfl rfl ?_
    refine J_iconst C (0) dX6_river_38 ic_0 ?_
    refine G_iald C 0 dX6_river_39 rfl (hS _ (by decide)) rfl (by decide) ?_
    refine J_iconst C (0) dX6_river_40 ic_0 ?_
    rw [v4 0 (by decide)]
    refine G_spi C dX6_river_41 (c_X6_or E hM0 _ _ _ _ _ _) gX6_river_X6_or rfl dm_X6_or rfl rfl (Nat.le_of_ble_eq_true rfl) (rmOK_b rfl) (fun r41 hr41 => ?_)
    subst hr41
    refine J_top (y := nI ((s.2.2.2 0).getD 0)) (or_oI (v := 0) ob0) ?_
    refine J_sipush C (128) dX6_river_44 sc_128 ?_
    refine J_imul C dX6_river_47 ?_
    rw [fer_i hO]
    refine G6_puti C (n := 4810) 10 dX6_river_48 fX6_river_177 iX6_river_6 rfl (hS _ (by decide)) rfl (tyX6_ok 10 (by decide)) rfl rfl ?_
    refine J_gen (fun G hG => ?_)
    refine J_iconst C (0) dX6_river_51 ic_0 ?_
    refine J_istore_2 C dX6_river_52 (by decide) trivial ?_
    have loop : ∀ (n2 : Nat) (t : Nat) (g2 : Nat → Int32) (T2 : Nat → Nat → Int32), t ≤ s.1 → s.1 < n2 + t → g2 4810 = nI ((if s.2.2.2 0 = some 1 then 128 else 0) ||| bsN (s.2.1 4) 1 t) → (∀ k, k ≠ 4810 → g2 k = G k) → (∀ c, (c < 50 ∨ 53 < c) → T2 c = T1 c) → (∀ j, j < t → T2 50 j = nI (s.2.1 0 j) ∧ T2 51 j = nI (s.2.1 1 j) ∧ T2 52 j = nI (s.2.1 2 j) ∧ T2 53 j = nI (s.2.1 3 j)) → J E Y (eN E) 0 0 (wS E g2 h1 T2 L1) 53 [some (.ref (eA E 48)), some (.int r1), some (.int (nI t))] [] := by
      intro n2
      induction n2 with
      | zero =>
        intro t g2 T2 ht hfu hg10 hg2 hT2 hrow
        omega
      | succ n2 ih =>
        intro t g2 T2 ht hfu hg10 hg2 hT2 hrow
        refine J_iload_2 C dX6_river_53 ?_
        refine J_aload_0 C dX6_river_54 ?_
        refine G6_geti C (n := 4802) 2 dX6_river_55 fX6_river_82 iX6_river_6 rfl (hS _ (by decide)) rfl rfl ?_
        refine J_icmp_ge C 146 dX6_river_58 (by decide) (fun hc58 => ?_) (fun hc58 => ?_)
        · skip
          have htm : t = s.1 := by
            have h9 : s.1 ≤ t := ge_nI (by omega) (by rw [← (show g2 4802 = nI s.1 by rw [hg2 4802 (by decide), hG]; simp [upd]; exact v1)]; exact hc58)
            omega
          subst htm
          refine J_aload_0 C dX6_river_146 ?_
          refine J_aload_0 C dX6_river_147 ?_
          refine G6_getr C (n := 61) 31 dX6_river_148 fX6_river_59 iX6_river_6 rfl (hS _ (by decide)) rfl rfl ?_
          refine J_iconst C (1) dX6_river_151 ic_1 ?_
          refine G_iald C 1 dX6_river_152 rfl (hS _ (by decide)) rfl (by decide) ?_
          rw [hT2 61 (by decide), v4 1 (by decide)]
          refine J_iconst C (2) dX6_river_153 ic_2 ?_
          refine G_spi C dX6_river_154 (c_X6_or E hM0 _ _ _ _ _ _) gX6_river_X6_or rfl dm_X6_or rfl rfl (Nat.le_of_ble_eq_true rfl) (rmOK_b rfl) (fun r154 hr154 => ?_)
          subst hr154
          refine J_top (y := nI ((s.2.2.2 1).getD 2)) (or_oI (v := 2) ob1) ?_
          refine G6_puti C (n := 4808) 8 dX6_river_157 fX6_river_25 iX6_river_6 rfl (hS _ (by decide)) rfl (tyX6_ok 8 (by decide)) rfl rfl ?_
          refine J_aload_0 C dX6_river_160 ?_
          refine J_aload_0 C dX6_river_161 ?_
          refine G6_getr C (n := 61) 31 dX6_river_162 fX6_river_59 iX6_river_6 rfl (hS _ (by decide)) rfl rfl ?_
          refine J_iconst C (2) dX6_river_165 ic_2 ?_
          refine G_iald C 2 dX6_river_166 rfl (hS _ (by decide)) rfl (by decide) ?_
          rw [hT2 61 (by decide), v4 2 (by decide)]
          refine J_bipush C (9) dX6_river_167 bc_9 ?_
          refine G_spi C dX6_river_169 (c_X6_or E hM0 _ _ _ _ _ _) gX6_river_X6_or rfl dm_X6_or rfl rfl (Nat.le_of_ble_eq_true rfl) (rmOK_b rfl) (fun r169 hr169 => ?_)
          subst hr169
          refine J_top (y := nI ((s.2.2.2 2).getD 9)) (or_oI (v := 9) ob2) ?_
          refine G6_puti C (n := 4812) 12 dX6_river_172 fX6_river_32 iX6_river_6 rfl (hS _ (by decide)) rfl (tyX6_ok 12 (by decide)) rfl rfl ?_
          refine J_aload_0 C dX6_river_175 ?_
          refine J_aload_0 C dX6_river_176 ?_
          refine G6_getr C (n := 61) 31 dX6_river_177 fX6_river_59 iX6_river_6 rfl (hS _ (by decide)) rfl rfl ?_
          refine J_iconst C (3) dX6_river_180 ic_3 ?_
          refine G_iald C 3 dX6_river_181 rfl (hS _ (by decide)) rfl (by decide) ?_
          rw [hT2 61 (by decide), v4 3 (by decide)]
          refine J_iconst C (5) dX6_river_182 ic_5 ?_
          refine G_spi C dX6_river_183 (c_X6_or E hM0 _ _ _ _ _ _) gX6_river_X6_or rfl dm_X6_or rfl rfl (Nat.le_of_ble_eq_true rfl) (rmOK_b rfl) (fun r183 hr183 => ?_)
          subst hr183
          refine J_top (y := nI ((s.2.2.2 3).getD 5)) (or_oI (v := 5) ob3) ?_
          refine G6_puti C (n := 4809) 9 dX6_river_186 fX6_river_29 iX6_river_6 rfl (hS _ (by decide)) rfl (tyX6_ok 9 (by decide)) rfl rfl ?_
          refine J_aload_0 C dX6_river_189 ?_
          refine J_aload_0 C dX6_river_190 ?_
          refine G6_geti C (n := 4810) 10 dX6_river_191 fX6_river_177 iX6_river_6 rfl (hS _ (by decide)) rfl rfl ?_
          refine G6_puti C (n := 4811) 11 dX6_river_194 fX6_river_180 iX6_river_6 rfl (hS _ (by decide)) rfl (tyX6_ok 11 (by decide)) rfl rfl ?_
          refine J_aload_0 C dX6_river_197 ?_
          refine J_iconst C (0) dX6_river_198 ic_0 ?_
          refine G6_puti C (n := 4813) 13 dX6_river_199 fX6_river_183 iX6_river_6 rfl (hS _ (by decide)) rfl (tyX6_ok 13 (by decide)) rfl rfl ?_
          refine J_aload_0 C dX6_river_202 ?_
          refine J_iconst C (0) dX6_river_203 ic_0 ?_
          refine G6_puti C (n := 4815) 15 dX6_river_204 fX6_river_186 iX6_river_6 rfl (hS _ (by decide)) rfl (tyX6_ok 15 (by decide)) rfl rfl ?_
          refine J_aload_0 C dX6_river_207 ?_
          refine J_iconst C (0) dX6_river_208 ic_0 ?_
          refine G6_puti C (n := 4817) 17 dX6_river_209 fX6_river_189 iX6_river_6 rfl (hS _ (by decide)) rfl (tyX6_ok 17 (by decide)) rfl rfl ?_
          refine J_aload_0 C dX6_river_212 ?_
          refine G6_getr C (n := 58) 21 dX6_river_213 fX6_river_50 iX6_river_6 rfl (hS _ (by decide)) rfl rfl ?_
          refine J_iconst C (0) dX6_river_216 ic_0 ?_
          refine J_iconst C (0) dX6_river_217 ic_0 ?_
          refine G_iast C 0 dX6_river_218 rfl (hS _ (by decide)) rfl (by decide) ?_
          refine J_aload_0 C dX6_river_219 ?_
          refine G6_getr C (n := 58) 21 dX6_river_220 fX6_river_50 iX6_river_6 rfl (hS _ (by decide)) rfl rfl ?_
          refine J_bipush C (30) dX6_river_223 bc_30 ?_
          refine J_iconst C (0) dX6_river_225 ic_0 ?_
          refine G_iast C 30 dX6_river_226 rfl (hS _ (by decide)) rfl (by decide) ?_
          refine J_aload_0 C dX6_river_227 ?_
          refine J_iconst C (0) dX6_river_228 ic_0 ?_
          refine G6_puti C (n := 4801) 1 dX6_river_229 fX6_river_91 iX6_river_6 rfl (hS _ (by decide)) rfl (tyX6_ok 1 (by decide)) rfl rfl ?_
          refine J_iload_1 C dX6_river_232 ?_
          refine hQ _ _ _ _ dX6_river_233 ⟨_, _, _, _, rfl, ?_⟩
          have hG2 : G 4802 = nI s.1 := by rw [hG]; simp [upd]; exact v1
          have hG3 : G 4803 = nI s.2.2.1 := by rw [hG]; simp [upd]; exact v2
          have hGo : ∀ k, k ≠ 4802 → k ≠ 4803 → k ≠ 4810 → G k = g1 k := fun k k1 k2 k3 => by rw [hG]; simp only [upd]; rw [if_neg k3, if_neg k2, if_neg k1]
          have hst : g2 4810 = nI (stN s) := by rw [hg10]; unfold stN; rw [Nat.or_comm]
          refine ⟨Or.inl ⟨s, k, e1, e2, e3, hO, ⟨by simp [upd]; rw [hg2 4802 (by decide)]; exact hG2, by simp [upd]; rw [hg2 4803 (by decide)]; exact hG3, by simp [upd]; exact hst, by simp [upd]; exact hst, by simp [upd], by simp [upd], by simp [upd], by simp [upd], by simp [upd], by simp [upd], by simp [upd], fun t ht => ?_, fun j => ?_⟩, fun k' hk' => ?_, fun k' hk' => hFr.2.1 k' hk', fun c hc => ?_⟩, rfl⟩
          · rw [tU_ne (by decide), tU_ne (by decide), tU_ne (by decide), tU_ne (by decide), tU_ne (by decide), tU_ne (by decide), tU_ne (by decide), tU_ne (by decide)]
            exact hrow t ht
          · rw [tU_eq]
            have h58 : T2 58 j = T 58 j := by rw [hT2 58 (by decide), hFr.2.2 58 (by decide)]
            by_cases q1 : j = 30
            · simp [upd, q1]
            · by_cases q0 : j = 0
              · simp [upd, va_up, q0]
              · rw [if_neg (by omega)]
                simp only [upd, if_neg q1, tU_eq, if_neg q0]
                exact h58
          · simp only [upd]
            repeat rw [if_neg (by omega)]
            rw [hg2 k' (by omega), hGo k' (by omega) (by omega) (by omega)]
            exact hFr.1 k' (by omega)
          · rw [tU_ne (by omega), tU_ne (by omega), hT2 c (by omega)]
            exact hFr.2.2 c (by omega)
        · skip
          have htm : t < s.1 := lt_nI (by omega) (by rw [← (show g2 4802 = nI s.1 by rw [hg2 4802 (by decide), hG]; simp [upd]; exact v1)]; exact hc58)
          obtain ⟨z1, z2, z3, z4, z5⟩ := v3 t htm
          obtain ⟨y1, y2, y3, y4, y5, y6⟩ := hO.2.2.1 t htm
          refine J_aload_0 C dX6_river_61 ?_
          refine J_dup C dX6_river_62 ?_
          refine G6_geti C (n := 4810) 10 dX6_river_63 fX6_river_177 iX6_river_6 rfl (hS _ (by decide)) rfl rfl ?_
          refine J_aload_0 C dX6_river_66 ?_
          refine G6_getr C (n := 59) 29 dX6_river_67 fX6_river_53 iX6_river_6 rfl (hS _ (by decide)) rfl rfl ?_
          refine J_iconst C (4) dX6_river_70 ic_4 ?_
          refine J_iload_2 C dX6_river_71 ?_
          refine J_imul C dX6_river_72 ?_
          refine G_iald C (4 * t) dX6_river_73 rfl (hS _ (by decide)) ix40 (by omega) ?_
          rw [hT2 59 (by decide), z1]
          refine J_iload_2 C dX6_river_74 ?_
          refine J_ishl C dX6_river_75 ?_
          rw [sh01 _ (by omega) _ (by omega), hg10]
          refine J_ior C dX6_river_76 ?_
          rw [nI_or]
          refine G6_puti C (n := 4810) 10 dX6_river_77 fX6_river_177 iX6_river_6 rfl (hS _ (by decide)) rfl (tyX6_ok 10 (by decide)) rfl rfl ?_
          refine J_aload_0 C dX6_river_80 ?_
          refine G6_getr C (n := 50) 4 dX6_river_81 fX6_river_13 iX6_river_6 rfl (hS _ (by decide)) rfl rfl ?_
          refine J_iload_2 C dX6_river_84 ?_
          refine J_aload_0 C dX6_river_85 ?_
          refine G6_getr C (n := 59) 29 dX6_river_86 fX6_river_53 iX6_river_6 rfl (hS _ (by decide)) rfl rfl ?_
          refine J_iconst C (4) dX6_river_89 ic_4 ?_
          refine J_iload_2 C dX6_river_90 ?_
          refine J_imul C dX6_river_91 ?_
          refine J_iconst C (1) dX6_river_92 ic_1 ?_
          refine J_iadd C dX6_river_93 ?_
          refine G_iald C (4 * t + 1) dX6_river_94 rfl (hS _ (by decide)) ix4 (by omega) ?_
          rw [hT2 59 (by decide), z2]
          refine G_iast C t dX6_river_95 rfl (hS _ (by decide)) rfl (by omega) ?_
          refine J_aload_0 C dX6_river_96 ?_
          refine G6_getr C (n := 51) 5 dX6_river_97 fX6_river_16 iX6_river_6 rfl (hS _ (by decide)) rfl rfl ?_
          refine J_iload_2 C dX6_river_100 ?_
          refine J_aload_0 C dX6_river_101 ?_
          refine G6_getr C (n := 59) 29 dX6_river_102 fX6_river_53 iX6_river_6 rfl (hS _ (by decide)) rfl rfl ?_
          refine J_iconst C (4) dX6_river_105 ic_4 ?_
          refine J_iload_2 C dX6_river_106 ?_
          refine J_imul C dX6_river_107 ?_
          refine J_iconst C (2) dX6_river_108 ic_2 ?_
          refine J_iadd C dX6_river_109 ?_
          refine G_iald C (4 * t + 2) dX6_river_110 rfl (hS _ (by decide)) ix4 (by omega) ?_
          rw [tU_ne (by decide), hT2 59 (by decide), z3]
          refine G_iast C t dX6_river_111 rfl (hS _ (by decide)) rfl (by omega) ?_
          refine J_aload_0 C dX6_river_112 ?_
          refine G6_getr C (n := 52) 6 dX6_river_113 fX6_river_19 iX6_river_6 rfl (hS _ (by decide)) rfl rfl ?_
          refine J_iload_2 C dX6_river_116 ?_
          refine J_aload_0 C dX6_river_117 ?_
          refine G6_getr C (n := 59) 29 dX6_river_118 fX6_river_53 iX6_river_6 rfl (hS _ (by decide)) rfl rfl ?_
          refine J_iconst C (4) dX6_river_121 ic_4 ?_
          refine J_iload_2 C dX6_river_122 ?_
          refine J_imul C dX6_river_123 ?_
          refine J_iconst C (3) dX6_river_124 ic_3 ?_
          refine J_iadd C dX6_river_125 ?_
          refine G_iald C (4 * t + 3) dX6_river_126 rfl (hS _ (by decide)) ix4 (by omega) ?_
          refine J_top (y := nI (s.2.1 2 t)) (by rw [tU_ne (by decide), tU_ne (by decide), hT2 59 (by decide)]; exact z4) ?_
          refine G_iast C t dX6_river_127 rfl (hS _ (by decide)) rfl (by omega) ?_
          refine J_aload_0 C dX6_river_128 ?_
          refine G6_getr C (n := 53) 7 dX6_river_129 fX6_river_22 iX6_river_6 rfl (hS _ (by decide)) rfl rfl ?_
          refine J_iload_2 C dX6_river_132 ?_
          refine J_aload_0 C dX6_river_133 ?_
          refine G6_getr C (n := 60) 30 dX6_river_134 fX6_river_56 iX6_river_6 rfl (hS _ (by decide)) rfl rfl ?_
          refine J_iload_2 C dX6_river_137 ?_
          refine G_iald C t dX6_river_138 rfl (hS _ (by decide)) rfl (by omega) ?_
          refine J_top (y := nI (s.2.1 3 t)) (by rw [tU_ne (by decide), tU_ne (by decide), tU_ne (by decide), hT2 60 (by decide)]; exact z5) ?_
          refine G_iast C t dX6_river_139 rfl (hS _ (by decide)) rfl (by omega) ?_
          refine J_iinc_2 C (1) dX6_river_140 (by decide) trivial ic_1 ?_
          refine J_goto C 53 dX6_river_143 (by decide) ?_
          rw [nI_1]
          refine ih (t + 1) _ _ (by omega) (by omega) ?_ (fun k hk => ?_) (fun c hc => ?_) (fun j hj => ?_)
          · simp only [upd, if_true, bsN, Nat.or_assoc]
          · simp only [upd]
            rw [if_neg hk]
            exact hg2 k hk
          · rw [tU_ne (by omega), tU_ne (by omega), tU_ne (by omega), tU_ne (by omega)]
            exact hT2 c hc
          · by_cases e : j = t
            · subst e
              simp [va_up, upd]
            · obtain ⟨q1, q2, q3, q4⟩ := hrow j (by omega)
              simp [va_up, upd, e]
              exact ⟨q1, q2, q3, q4⟩
    exact loop 8 0 G T1 (by omega) (by omega) (by rw [hG]; simp [upd, bsN]) (fun _ _ => rfl) (fun _ _ => rfl) (fun j hj => by omega)
  · skip
    refine J_bipush C (-10) dX6_river_9 bc_m10 ?_
    refine J_aload_0 C dX6_river_11 ?_
    refine G6_geti C (n := 4824) 24 dX6_river_12 fX6_river_99 iX6_river_6 rfl (hS _ (by decide)) rfl rfl ?_
    refine J_isub C dX6_river_15 ?_
    refine hQ _ _ _ _ dX6_river_16 ⟨_, _, _, _, rfl, ?_⟩
    obtain ⟨e, e1, e2, e3⟩ := hres.resolve_left (fun ⟨s, k, _, z1, z2, _⟩ => by rw [z2] at hc6; exact absurd (nI_pos' (n := k) (by omega)) hc6)
    rw [e3]
    exact ⟨Or.inr ⟨e, e1, rfl, hFr⟩, rfl⟩
