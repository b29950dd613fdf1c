/-! the model's own words: the next token, from where it stands -/
def hvN (b : Nat → Nat) (s : Nat) : Nat → Nat
  | 0 => 0
  | L + 1 => 32 * hvN b s L + (b (s + L) - 96)
def nvN (b : Nat → Nat) (s : Nat) : Nat → Nat
  | 0 => 0
  | L + 1 => 10 * nvN b s L + (b (s + L) - 48)
def hvI (b : Nat → Nat) (s L : Nat) : Int64 := if L ≤ 6 then lN (hvN b s L) else -1
def nvI (b : Nat → Nat) (s L : Nat) : Int64 := if L ≤ 2 then lN (nvN b s L) else 1000
def kdN (n : Nat) (b : Nat → Nat) (s : Nat) : Nat := if n ≤ s then 0 else if isL (b s) = true then 1 else if isD (b s) = true then 2 else if b s = 59 then 3 else 4
def nxG (g : Nat → Int32) (x s kd : Nat) : Nat → Int32 := fun k => if k = 4823 then nI x else if k = 4824 then nI s else if k = 4825 then nI kd else g k
def MtX (g : Nat → Int32) (T : Nat → Nat → Int32) (n : Nat) (b : Nat → Nat) : Prop := n ≤ 200 ∧ g 4801 = nI n ∧ ∀ i, i < n → T 49 i = nI (b i) ∧ b i < 256
def xEnd (n : Nat) (b : Nat → Nat) (s : Nat) : Nat := if kdN n b s = 1 ∨ kdN n b s = 2 then eoT n b s else if kdN n b s = 3 then s + 1 else s
def vEnd (n : Nat) (b : Nat → Nat) (s : Nat) : Int64 := if kdN n b s = 1 then hvI b s (eoT n b s - s) else if kdN n b s = 2 then nvI b s (eoT n b s - s) else 0
def kEnd (n : Nat) (b : Nat → Nat) (s : Nat) : Nat := if kdN n b s = 2 ∧ b s = 48 ∧ 1 < eoT n b s - s then 4 else kdN n b s
theorem nI_sub {a c : Nat} (h : c ≤ a) : nI a - nI c = nI (a - c) := by rw [show nI a = nI (a - c) + nI c by rw [nI_add]; congr 1; omega, Int32.add_sub_cancel]
theorem isL_nD {c : Nat} (h : isL c = true) : isD c = false := by
  simp [isL, isD] at h ⊢
  omega
theorem smK_L {x y : Nat} (h : isL x = true) : smK x y = isL y := by
  unfold smK
  rw [h, isL_nD h]
  simp
theorem smK_D {x y : Nat} (h0 : isL x = false) (h : isD x = true) : smK x y = isD y := by
  unfold smK
  rw [h, h0]
  simp
theorem eoT_L {n s : Nat} {b : Nat → Nat} (hs : s < n) (h : isL (b s) = true) : eoT n b s = runT (fun j => isL (b j)) n s := by
  rw [runT_go hs h]
  unfold eoT
  congr 1
  funext j
  exact smK_L h
theorem eoT_D {n s : Nat} {b : Nat → Nat} (hs : s < n) (h0 : isL (b s) = false) (h : isD (b s) = true) : eoT n b s = runT (fun j => isD (b j)) n s := by
  rw [runT_go hs h]
  unfold eoT
  congr 1
  funext j
  exact smK_D h0 h
theorem kdN_lt {n s : Nat} {b : Nat → Nat} : kdN n b s < 5 := by
  unfold kdN
  repeat' split
  all_goals omega
theorem kdN_1 {n s : Nat} {b : Nat → Nat} (h : kdN n b s = 1) : s < n ∧ isL (b s) = true := by
  unfold kdN at h
  split at h
  · cases h
  · split at h
    · rename_i q q2; exact ⟨by omega, q2⟩
    · split at h
      · cases h
      · split at h <;> cases h
theorem kdN_2 {n s : Nat} {b : Nat → Nat} (h : kdN n b s = 2) : s < n ∧ isL (b s) = false ∧ isD (b s) = true := by
  unfold kdN at h
  split at h
  · cases h
  · split at h
    · cases h
    · split at h
      · rename_i q q2 q3; exact ⟨by omega, by simpa using q2, q3⟩
      · split at h <;> cases h
theorem hv_nx {b : Nat → Nat} {s L : Nat} (hL : L < 6) (hc : 96 ≤ b (s + L)) : lN 32 * hvI b s L + lN (b (s + L)) - lN 96 = hvI b s (L + 1) := by
  unfold hvI
  rw [if_pos (by omega), if_pos (by omega), lN_mul, lN_add, lN_sub (by omega)]
  congr 1
  simp only [hvN]
  omega
theorem nv_nx {b : Nat → Nat} {s L : Nat} (hL : L < 2) (hc : 48 ≤ b (s + L)) : lN 10 * nvI b s L + lN (b (s + L)) - lN 48 = nvI b s (L + 1) := by
  unfold nvI
  rw [if_pos (by omega), if_pos (by omega), lN_mul, lN_add, lN_sub (by omega)]
  congr 1
  simp only [nvN]
  omega
theorem J_gh {E : EN} {Y : YN} {N cs ss pc : Nat} {g g' : Nat → Int32} {h h' : Nat → Int64} {T : Nat → Nat → Int32} {L : Nat → Nat → Int64} {lv : List (Option Value)} {st : List Value} (e : g = g') (e2 : h = h') (kk : J E Y N cs ss (wS E g' h' T L) pc lv st) : J E Y N cs ss (wS E g h T L) pc lv st := by
  subst e; subst e2; exact kk
theorem nxG_at {g : Nat → Int32} {x s kd y : Nat} : upd (nxG g x s kd) 4823 (nI y) = nxG g y s kd := by
  funext k
  unfold upd nxG
  by_cases e : k = 4823
  · rw [if_pos e, if_pos e]
  · rw [if_neg e, if_neg e, if_neg e]
theorem updL2 {h : Nat → Int64} {i : Nat} {a c : Int64} : vp_updL (vp_updL h i a) i c = vp_updL h i c := by
  funext k
  unfold vp_updL
  split <;> rfl
theorem upd2 {g : Nat → Int32} {i : Nat} {a c : Int32} : upd (upd g i a) i c = upd g i c := by
  funext k
  unfold upd
  split <;> rfl
theorem upd_sf {g : Nat → Int32} {i : Nat} {a : Int32} (h : g i = a) : upd g i a = g := by
  funext k
  unfold upd
  split
  · rename_i e; rw [e]; exact h.symm
  · rfl
abbrev rmX6_isLetter : Room := { frames := 0, cells := 0, slots := 0, locals := 0 }
theorem bc_96 : (Int8.ofInt (96)).toInt32 = (96) := by decide
theorem bc_123 : (Int8.ofInt (123)).toInt32 = (123) := by decide
set_option maxRecDepth 100000 in
set_option maxHeartbeats 4000000 in
theorem c_X6_isLetter (E : EN) (hM : EM E) (g : Nat → Int32) (h : Nat → Int64) (T : Nat → Nat → Int32) (L : Nat → Nat → Int64) (c : Nat) (hc : c < 256) : GpI E yX6_isLetter wsX6_isLetter rmX6_isLetter [.int (nI c)] g h T L (fun r => r = bI (isL c)) := by
  refine CtZ_of (cc := cX6_isLetter) (nL := 1) RX6 [some (.int (nI c))] ⟨rfl, rfl⟩ (by decide) rfl rfl (Nat.le_of_ble_eq_true rfl) ⟨0, rfl⟩ hM.2 (fun Y C hQ => ?_)
  refine J_iload_0 C dX6_isLetter_0 ?_
  refine J_bipush C (96) dX6_isLetter_1 bc_96 ?_
  refine J_icmp_le C 16 dX6_isLetter_3 (by decide) (fun hc3 => ?_) (fun hc3 => ?_)
  · skip
    refine J_iconst C (0) dX6_isLetter_16 ic_0 ?_
    refine hQ _ _ _ _ dX6_isLetter_17 rfl ⟨rfl, ?_⟩
    first
    | (rw [show (96 : Int32) = nI 96 by decide, nI_leI (by omega) (by decide)] at hc3
       have e : isL c = false := by simp [isL]; omega
       rw [e]; rfl)
    | (rw [show (123 : Int32) = nI 123 by decide, nI_leI (by decide) (by omega)] at hc9
       have e : isL c = false := by simp [isL]; omega
       rw [e]; rfl)
    | (rw [show (96 : Int32) = nI 96 by decide, nI_leI (by omega) (by decide)] at hc3
       rw [show (123 : Int32) = nI 123 by decide, nI_leI (by decide) (by omega)] at hc9
       have e : isL c = true := by simp [isL]; omega
       rw [e]; rfl)
  · skip
    refine J_iload_0 C dX6_isLetter_6 ?_
    refine J_bipush C (123) dX6_isLetter_7 bc_123 ?_
    refine J_icmp_ge C 16 dX6_isLetter_9 (by decide) (fun hc9 => ?_) (fun hc9 => ?_)
    · skip
      refine J_iconst C (0) dX6_isLetter_16 ic_0 ?_
      refine hQ _ _ _ _ dX6_isLetter_17 rfl ⟨rfl, ?_⟩
      first
      | (rw [show (96 : Int32) = nI 96 by decide, nI_leI (by omega) (by decide)] at hc3
         have e : isL c = false := by simp [isL]; omega
         rw [e]; rfl)
      | (rw [show (123 : Int32) = nI 123 by decide, nI_leI (by decide) (by omega)] at hc9
         have e : isL c = false := by simp [isL]; omega
         rw [e]; rfl)
      | (rw [show (96 : Int32) = nI 96 by decide, nI_leI (by omega) (by decide)] at hc3
         rw [show (123 : Int32) = nI 123 by decide, nI_leI (by decide) (by omega)] at hc9
         have e : isL c = true := by simp [isL]; omega
         rw [e]; rfl)
    · skip
      refine J_iconst C (1) dX6_isLetter_12 ic_1 ?_
      refine J_goto C 17 dX6_isLetter_13 (by decide) ?_
      refine hQ _ _ _ _ dX6_isLetter_17 rfl ⟨rfl, ?_⟩
      first
      | (rw [show (96 : Int32) = nI 96 by decide, nI_leI (by omega) (by decide)] at hc3
         have e : isL c = false := by simp [isL]; omega
         rw [e]; rfl)
      | (rw [show (123 : Int32) = nI 123 by decide, nI_leI (by decide) (by omega)] at hc9
         have e : isL c = false := by simp [isL]; omega
         rw [e]; rfl)
      | (rw [show (96 : Int32) = nI 96 by decide, nI_leI (by omega) (by decide)] at hc3
         rw [show (123 : Int32) = nI 123 by decide, nI_leI (by decide) (by omega)] at hc9
         have e : isL c = true := by simp [isL]; omega
         rw [e]; rfl)
abbrev rmX6_isFigure : Room := { frames := 0, cells := 0, slots := 0, locals := 0 }
theorem bc_47 : (Int8.ofInt (47)).toInt32 = (47) := by decide
theorem bc_58 : (Int8.ofInt (58)).toInt32 = (58) := by decide
set_option maxRecDepth 100000 in
set_option maxHeartbeats 4000000 in
theorem c_X6_isFigure (E : EN) (hM : EM E) (g : Nat → Int32) (h : Nat → Int64) (T : Nat → Nat → Int32) (L : Nat → Nat → Int64) (c : Nat) (hc : c < 256) : GpI E yX6_isFigure wsX6_isFigure rmX6_isFigure [.int (nI c)] g h T L (fun r => r = bI (isD c)) := by
  refine CtZ_of (cc := cX6_isFigure) (nL := 1) RX6 [some (.int (nI c))] ⟨rfl, rfl⟩ (by decide) rfl rfl (Nat.le_of_ble_eq_true rfl) ⟨0, rfl⟩ hM.2 (fun Y C hQ => ?_)
  refine J_iload_0 C dX6_isFigure_0 ?_
  refine J_bipush C (47) dX6_isFigure_1 bc_47 ?_
  refine J_icmp_le C 16 dX6_isFigure_3 (by decide) (fun hc3 => ?_) (fun hc3 => ?_)
  · skip
    refine J_iconst C (0) dX6_isFigure_16 ic_0 ?_
    refine hQ _ _ _ _ dX6_isFigure_17 rfl ⟨rfl, ?_⟩
    first
    | (rw [show (47 : Int32) = nI 47 by decide, nI_leI (by omega) (by decide)] at hc3
       have e : isD c = false := by simp [isD]; omega
       rw [e]; rfl)
    | (rw [show (58 : Int32) = nI 58 by decide, nI_leI (by decide) (by omega)] at hc9
       have e : isD c = false := by simp [isD]; omega
       rw [e]; rfl)
    | (rw [show (47 : Int32) = nI 47 by decide, nI_leI (by omega) (by decide)] at hc3
       rw [show (58 : Int32) = nI 58 by decide, nI_leI (by decide) (by omega)] at hc9
       have e : isD c = true := by simp [isD]; omega
       rw [e]; rfl)
  · skip
    refine J_iload_0 C dX6_isFigure_6 ?_
    refine J_bipush C (58) dX6_isFigure_7 bc_58 ?_
    refine J_icmp_ge C 16 dX6_isFigure_9 (by decide) (fun hc9 => ?_) (fun hc9 => ?_)
    · skip
      refine J_iconst C (0) dX6_isFigure_16 ic_0 ?_
      refine hQ _ _ _ _ dX6_isFigure_17 rfl ⟨rfl, ?_⟩
      first
      | (rw [show (47 : Int32) = nI 47 by decide, nI_leI (by omega) (by decide)] at hc3
         have e : isD c = false := by simp [isD]; omega
         rw [e]; rfl)
      | (rw [show (58 : Int32) = nI 58 by decide, nI_leI (by decide) (by omega)] at hc9
         have e : isD c = false := by simp [isD]; omega
         rw [e]; rfl)
      | (rw [show (47 : Int32) = nI 47 by decide, nI_leI (by omega) (by decide)] at hc3
         rw [show (58 : Int32) = nI 58 by decide, nI_leI (by decide) (by omega)] at hc9
         have e : isD c = true := by simp [isD]; omega
         rw [e]; rfl)
    · skip
      refine J_iconst C (1) dX6_isFigure_12 ic_1 ?_
      refine J_goto C 17 dX6_isFigure_13 (by decide) ?_
      refine hQ _ _ _ _ dX6_isFigure_17 rfl ⟨rfl, ?_⟩
      first
      | (rw [show (47 : Int32) = nI 47 by decide, nI_leI (by omega) (by decide)] at hc3
         have e : isD c = false := by simp [isD]; omega
         rw [e]; rfl)
      | (rw [show (58 : Int32) = nI 58 by decide, nI_leI (by decide) (by omega)] at hc9
         have e : isD c = false := by simp [isD]; omega
         rw [e]; rfl)
      | (rw [show (47 : Int32) = nI 47 by decide, nI_leI (by omega) (by decide)] at hc3
         rw [show (58 : Int32) = nI 58 by decide, nI_leI (by decide) (by omega)] at hc9
         have e : isD c = true := by simp [isD]; omega
         rw [e]; rfl)
abbrev rmX6_next : Room := { frames := 1, cells := 0, slots := 0, locals := 20 }
theorem kcX6_next_116 : Cond.constantLong RX6 116 (32) ∈ wsX6_next := by decide +kernel
theorem kcX6_next_118 : Cond.constantLong RX6 118 (96) ∈ wsX6_next := by decide +kernel
theorem kcX6_next_120 : Cond.constantLong RX6 120 (-1) ∈ wsX6_next := by decide +kernel
theorem kcX6_next_122 : Cond.constantLong RX6 122 (10) ∈ wsX6_next := by decide +kernel
theorem kcX6_next_124 : Cond.constantLong RX6 124 (48) ∈ wsX6_next := by decide +kernel
theorem kcX6_next_126 : Cond.constantLong RX6 126 (1000) ∈ wsX6_next := by decide +kernel
theorem fX6_next_102 : Cond.fieldLink RX6 102 RX6 (TX6 26).2.1 (TX6 26).2.2.1 ∈ wsX6_next := by decide +kernel
theorem fX6_next_113 : Cond.fieldLink RX6 113 RX6 (TX6 25).2.1 (TX6 25).2.2.1 ∈ wsX6_next := by decide +kernel
theorem fX6_next_7 : Cond.fieldLink RX6 7 RX6 (TX6 0).2.1 (TX6 0).2.2.1 ∈ wsX6_next := by decide +kernel
theorem fX6_next_91 : Cond.fieldLink RX6 91 RX6 (TX6 1).2.1 (TX6 1).2.2.1 ∈ wsX6_next := by decide +kernel
theorem fX6_next_96 : Cond.fieldLink RX6 96 RX6 (TX6 23).2.1 (TX6 23).2.2.1 ∈ wsX6_next := by decide +kernel
theorem fX6_next_99 : Cond.fieldLink RX6 99 RX6 (TX6 24).2.1 (TX6 24).2.2.1 ∈ wsX6_next := by decide +kernel
theorem iX6_next_6 : ∀ x ∈ wsX60, x ∈ wsX6_next := by decide +kernel
theorem dm_X6_isFigure : yX6_isFigure.cls ≠ "java/lang/invoke/MethodHandle" ∧ yX6_isFigure.cls ≠ "java/lang/invoke/VarHandle" ∧ (parseMethodDescriptor yX6_isFigure.desc).map (fun d => d.parameters.length) = some 1 := by decide +kernel
theorem dm_X6_isLetter : yX6_isLetter.cls ≠ "java/lang/invoke/MethodHandle" ∧ yX6_isLetter.cls ≠ "java/lang/invoke/VarHandle" ∧ (parseMethodDescriptor yX6_isLetter.desc).map (fun d => d.parameters.length) = some 1 := by decide +kernel
set_option maxRecDepth 100000 in
set_option maxHeartbeats 4000000 in
theorem c_X6_next (E : EN) (hM : EM E) (g : Nat → Int32) (h : Nat → Int64) (T : Nat → Nat → Int32) (L : Nat → Nat → Int64) (n : Nat) (b : Nat → Nat) (q : Nat) (hX : MtX g T n b) (hq : g 4823 = nI q) (hqn : q ≤ n) : GtV E yX6_next wsX6_next rmX6_next [.ref (eA E 48)] g h T L (fun g2 h2 T2 L2 => g2 = nxG g (xEnd n b (nbT n b q)) (nbT n b q) (kEnd n b (nbT n b q)) ∧ h2 = vp_updL h 4826 (vEnd n b (nbT n b q)) ∧ T2 = T ∧ L2 = L) := by
  refine CtV_of (cc := cX6_next) (nL := 2) RX6 [some (.ref (eA E 48)), none] ⟨rfl, rfl⟩ (by decide) rfl rfl (Nat.le_of_ble_eq_true rfl) ⟨1, rfl⟩ hM.2 (fun Y hnm C hQ => ?_)
  have hM0 := hM
  obtain ⟨hS, hNN⟩ := hM
  obtain ⟨x1, x2, x3⟩ := hX
  obtain ⟨s, hs⟩ : ∃ s, s = nbT n b q := ⟨_, rfl⟩
  rw [← hs] at hQ
  have hsn : s ≤ n := by rw [hs]; exact nbT_le hqn
  obtain ⟨cI, hcI⟩ : ∃ c : Int32, c = if s < n then nI (b s) else -1 := ⟨_, rfl⟩
  have hcI0 : s < n → cI = nI (b s) := fun z => by rw [hcI, if_pos z]
  have hcI1 : ¬ s < n → cI = -1 := fun z => by rw [hcI, if_neg z]
  have loop1 : ∀ (n2 : Nat) (k : Nat), q ≤ k → k ≤ n → n < n2 + k → s = runT (fun j => b j == 32) n k → J E Y (eN E) 0 0 (wS E (upd g 4823 (nI k)) h T L) 0 [some (.ref (eA E 48)), none] [] := by
    intro n2
    induction n2 with
    | zero =>
      intro k h1 h2 h3 h4
      omega
    | succ n2 ih =>
      intro k h1 h2 h3 h4
      refine J_aload_0 C dX6_next_0 ?_
      have cutA : ∀ (_z : Nat), True → J E Y (eN E) 0 0 (wS E (upd g 4823 (nI s)) h T L) 38 [some (.ref (eA E 48)), none] [] := by
        intro _ _
        refine J_aload_0 C dX6_next_38 ?_
        refine J_aload_0 C dX6_next_39 ?_
        refine G6_geti C (n := 4823) 23 dX6_next_40 fX6_next_96 iX6_next_6 rfl (hS _ (by decide)) rfl rfl ?_
        refine G6_puti C (n := 4824) 24 dX6_next_43 fX6_next_99 iX6_next_6 rfl (hS _ (by decide)) rfl (tyX6_ok 24 (by decide)) rfl rfl ?_
        refine J_aload_0 C dX6_next_46 ?_
        have cutB : ∀ (x1 : Option Value), True → J E Y (eN E) 0 0 (wS E (nxG g s s (kdN n b s)) (vp_updL h 4826 0) T L) 121 [some (.ref (eA E 48)), x1] [] := by
          intro x1 _
          obtain ⟨kd, hkd0⟩ : ∃ kd, kd = kdN n b s := ⟨_, rfl⟩
          have hkl : kd < 5 := by rw [hkd0]; exact kdN_lt
          rw [← hkd0]
          refine J_aload_0 C dX6_next_121 ?_
          refine J_dup C dX6_next_122 ?_
          have cutC : ∀ (x1 : Option Value) (x : Nat), x = (if kd = 3 then s + 1 else s) → J E Y (eN E) 0 0 (wS E (nxG g x s kd) (vp_updL h 4826 0) T L) 143 [some (.ref (eA E 48)), x1] [] := by
            intro x1 x hx
            have hxn : x ≤ n + 1 := by rw [hx]; split <;> omega
            obtain ⟨y1, hy1⟩ : ∃ y1, y1 = (if kd = 1 then eoT n b s else x) := ⟨_, rfl⟩
            obtain ⟨v1, hv1⟩ : ∃ v1, v1 = (if kd = 1 then hvI b s (eoT n b s - s) else 0) := ⟨_, rfl⟩
            have loop2 : ∀ (n2 : Nat) (y : Nat) (v : Int64), (kd ≠ 1 → y = x ∧ v = 0) → (kd = 1 → s ≤ y ∧ y ≤ n ∧ eoT n b s = runT (fun j => isL (b j)) n y ∧ v = hvI b s (y - s)) → y ≤ n + 1 → n + 1 < n2 + y → J E Y (eN E) 0 0 (wS E (nxG g y s kd) (vp_updL h 4826 v) T L) 143 [some (.ref (eA E 48)), x1] [] := by
              intro n2
              induction n2 with
              | zero =>
                intro y v hl1 hl2 hyl hfu
                omega
              | succ n2 ih2 =>
                intro y v hl1 hl2 hyl hfu
                refine J_aload_0 C dX6_next_143 ?_
                have cutD : ∀ (_z : Nat), True → J E Y (eN E) 0 0 (wS E (nxG g y1 s kd) (vp_updL h 4826 v1) T L) 237 [some (.ref (eA E 48)), x1] [] := by
                  intro _ _
                  have hy1n : y1 ≤ n + 1 := by
                    rw [hy1]; split
                    · rename_i e; have := eoT_le (b := b) (kdN_1 (hkd0 ▸ e)).1; omega
                    · exact hxn
                  have loop3 : ∀ (n3 : Nat) (z : Nat) (u : Int64), (kd ≠ 2 → z = y1 ∧ u = v1) → (kd = 2 → s ≤ z ∧ z ≤ n ∧ eoT n b s = runT (fun j => isD (b j)) n z ∧ u = nvI b s (z - s)) → z ≤ n + 1 → n + 1 < n3 + z → J E Y (eN E) 0 0 (wS E (nxG g z s kd) (vp_updL h 4826 u) T L) 237 [some (.ref (eA E 48)), x1] [] := by
                    intro n3
                    induction n3 with
                    | zero =>
                      intro z u hm1 hm2 hzl hfu2
                      omega
                    | succ n3 ih3 =>
                      intro z u hm1 hm2 hzl hfu2
                      refine J_aload_0 C dX6_next_237 ?_
                      have cutE : ∀ (_z : Nat), True → J E Y (eN E) 0 0 (wS E (nxG g (xEnd n b s) s kd) (vp_updL h 4826 (vEnd n b s)) T L) 330 [some (.ref (eA E 48)), x1] [] := by
                        intro _ _
                        refine J_aload_0 C dX6_next_330 ?_
                        refine G6_geti C (n := 4825) 25 dX6_next_331 fX6_next_113 iX6_next_6 rfl (hS _ (by decide)) rfl rfl ?_
                        refine J_iconst C (2) dX6_next_334 ic_2 ?_
                        refine J_icmp_ne C 370 dX6_next_335 (by decide) (fun hc335 => ?_) (fun hc335 => ?_)
                        · skip
                          refine hQ _ _ _ dX6_next_370 ⟨_, _, _, _, rfl, ?_⟩
                          have hz2 : kd = 2 ↔ kdN n b s = 2 := by rw [hkd0]
                          refine ⟨?_, rfl, rfl, rfl⟩
                          unfold kEnd
                          first
                          | (have e : ¬ kdN n b s = 2 := fun z => hc335 (by rw [show nxG g (xEnd n b s) s kd 4825 = nI kd from rfl, hz2.mpr z]; rfl)
                             rw [if_neg (fun z => e z.1), hkd0])
                          | (have e : ¬ b s = 48 := fun z => hc349 (by rw [z]; rfl)
                             rw [if_neg (fun z => e z.2.1), hkd0])
                          | (have e : ¬ 1 < eoT n b s - s := fun z => absurd ((nI_leI (b := 1) (by omega) (by decide)).mp hc362) (by omega)
                             rw [if_neg (fun z => e z.2.2), hkd0])
                          | (have e : 1 < eoT n b s - s := Nat.lt_of_not_le fun z => hc362 ((nI_leI (b := 1) (by omega) (by decide)).mpr z)
                             have e2 : b s = 48 := nI_inj (by omega) (by decide) hc349
                             rw [if_pos ⟨hz2.mp hk2, e2, e⟩]
                             funext k
                             unfold upd nxG
                             by_cases e1 : k = 4823 <;> by_cases e2 : k = 4824 <;> by_cases e3 : k = 4825 <;> simp_all
                             try rfl)
                        · skip
                          have hk2 : kd = 2 := nI_inj (by omega) (by decide) hc335
                          obtain ⟨d1, d2, d3⟩ := kdN_2 (hkd0 ▸ hk2)
                          have hsb := (x3 s d1).2
                          have hex : xEnd n b s = eoT n b s := by
                            unfold xEnd; rw [← hkd0, if_pos (Or.inr hk2)]
                          have hel := eoT_le (b := b) d1
                          have heg := eoT_lt (b := b) (n := n) (i := s)
                          refine J_aload_0 C dX6_next_338 ?_
                          refine G6_getr C (n := 49) 0 dX6_next_339 fX6_next_7 iX6_next_6 rfl (hS _ (by decide)) rfl rfl ?_
                          refine J_aload_0 C dX6_next_342 ?_
                          refine G6_geti C (n := 4824) 24 dX6_next_343 fX6_next_99 iX6_next_6 rfl (hS _ (by decide)) rfl rfl ?_
                          refine G_iald C s dX6_next_346 rfl (hS _ (by decide)) rfl (by omega) ?_
                          rw [(x3 s d1).1]
                          refine J_bipush C (48) dX6_next_347 bc_48 ?_
                          refine J_icmp_ne C 370 dX6_next_349 (by decide) (fun hc349 => ?_) (fun hc349 => ?_)
                          · skip
                            refine hQ _ _ _ dX6_next_370 ⟨_, _, _, _, rfl, ?_⟩
                            have hz2 : kd = 2 ↔ kdN n b s = 2 := by rw [hkd0]
                            refine ⟨?_, rfl, rfl, rfl⟩
                            unfold kEnd
                            first
                            | (have e : ¬ kdN n b s = 2 := fun z => hc335 (by rw [show nxG g (xEnd n b s) s kd 4825 = nI kd from rfl, hz2.mpr z]; rfl)
                               rw [if_neg (fun z => e z.1), hkd0])
                            | (have e : ¬ b s = 48 := fun z => hc349 (by rw [z]; rfl)
                               rw [if_neg (fun z => e z.2.1), hkd0])
                            | (have e : ¬ 1 < eoT n b s - s := fun z => absurd ((nI_leI (b := 1) (by omega) (by decide)).mp hc362) (by omega)
                               rw [if_neg (fun z => e z.2.2), hkd0])
                            | (have e : 1 < eoT n b s - s := Nat.lt_of_not_le fun z => hc362 ((nI_leI (b := 1) (by omega) (by decide)).mpr z)
                               have e2 : b s = 48 := nI_inj (by omega) (by decide) hc349
                               rw [if_pos ⟨hz2.mp hk2, e2, e⟩]
                               funext k
                               unfold upd nxG
                               by_cases e1 : k = 4823 <;> by_cases e2 : k = 4824 <;> by_cases e3 : k = 4825 <;> simp_all
                               try rfl)
                          · skip
                            refine J_aload_0 C dX6_next_352 ?_
                            refine G6_geti C (n := 4823) 23 dX6_next_353 fX6_next_96 iX6_next_6 rfl (hS _ (by decide)) rfl rfl ?_
                            refine J_aload_0 C dX6_next_356 ?_
                            refine G6_geti C (n := 4824) 24 dX6_next_357 fX6_next_99 iX6_next_6 rfl (hS _ (by decide)) rfl rfl ?_
                            refine J_isub C dX6_next_360 ?_
                            rw [show nxG g (xEnd n b s) s kd 4823 - nxG g (xEnd n b s) s kd 4824 = nI (eoT n b s - s) by rw [show nxG g (xEnd n b s) s kd 4823 = nI (xEnd n b s) from rfl, show nxG g (xEnd n b s) s kd 4824 = nI s from rfl, hex]; exact nI_sub (by omega)]
                            refine J_iconst C (1) dX6_next_361 ic_1 ?_
                            refine J_icmp_le C 370 dX6_next_362 (by decide) (fun hc362 => ?_) (fun hc362 => ?_)
                            · skip
                              refine hQ _ _ _ dX6_next_370 ⟨_, _, _, _, rfl, ?_⟩
                              have hz2 : kd = 2 ↔ kdN n b s = 2 := by rw [hkd0]
                              refine ⟨?_, rfl, rfl, rfl⟩
                              unfold kEnd
                              first
                              | (have e : ¬ kdN n b s = 2 := fun z => hc335 (by rw [show nxG g (xEnd n b s) s kd 4825 = nI kd from rfl, hz2.mpr z]; rfl)
                                 rw [if_neg (fun z => e z.1), hkd0])
                              | (have e : ¬ b s = 48 := fun z => hc349 (by rw [z]; rfl)
                                 rw [if_neg (fun z => e z.2.1), hkd0])
                              | (have e : ¬ 1 < eoT n b s - s := fun z => absurd ((nI_leI (b := 1) (by omega) (by decide)).mp hc362) (by omega)
                                 rw [if_neg (fun z => e z.2.2), hkd0])
                              | (have e : 1 < eoT n b s - s := Nat.lt_of_not_le fun z => hc362 ((nI_leI (b := 1) (by omega) (by decide)).mpr z)
                                 have e2 : b s = 48 := nI_inj (by omega) (by decide) hc349
                                 rw [if_pos ⟨hz2.mp hk2, e2, e⟩]
                                 funext k
                                 unfold upd nxG
                                 by_cases e1 : k = 4823 <;> by_cases e2 : k = 4824 <;> by_cases e3 : k = 4825 <;> simp_all
                                 try rfl)
                            · skip
                              refine J_aload_0 C dX6_next_365 ?_
                              refine J_iconst C (4) dX6_next_366 ic_4 ?_
                              refine G6_puti C (n := 4825) 25 dX6_next_367 fX6_next_113 iX6_next_6 rfl (hS _ (by decide)) rfl (tyX6_ok 25 (by decide)) rfl rfl ?_
                              refine hQ _ _ _ dX6_next_370 ⟨_, _, _, _, rfl, ?_⟩
                              have hz2 : kd = 2 ↔ kdN n b s = 2 := by rw [hkd0]
                              refine ⟨?_, rfl, rfl, rfl⟩
                              unfold kEnd
                              first
                              | (have e : ¬ kdN n b s = 2 := fun z => hc335 (by rw [show nxG g (xEnd n b s) s kd 4825 = nI kd from rfl, hz2.mpr z]; rfl)
                                 rw [if_neg (fun z => e z.1), hkd0])
                              | (have e : ¬ b s = 48 := fun z => hc349 (by rw [z]; rfl)
                                 rw [if_neg (fun z => e z.2.1), hkd0])
                              | (have e : ¬ 1 < eoT n b s - s := fun z => absurd ((nI_leI (b := 1) (by omega) (by decide)).mp hc362) (by omega)
                                 rw [if_neg (fun z => e z.2.2), hkd0])
                              | (have e : 1 < eoT n b s - s := Nat.lt_of_not_le fun z => hc362 ((nI_leI (b := 1) (by omega) (by decide)).mpr z)
                                 have e2 : b s = 48 := nI_inj (by omega) (by decide) hc349
                                 rw [if_pos ⟨hz2.mp hk2, e2, e⟩]
                                 funext k
                                 unfold upd nxG
                                 by_cases e1 : k = 4823 <;> by_cases e2 : k = 4824 <;> by_cases e3 : k = 4825 <;> simp_all
                                 try rfl)
                      refine G6_geti C (n := 4825) 25 dX6_next_238 fX6_next_113 iX6_next_6 rfl (hS _ (by decide)) rfl rfl ?_
                      refine J_iconst C (2) dX6_next_241 ic_2 ?_
                      refine J_icmp_ne C 330 dX6_next_242 (by decide) (fun hc242 => ?_) (fun hc242 => ?_)
                      · skip
                        first
                        | (have e9 : eoT n b s = z := by rw [m3, runT_end (ge_nI (by omega) (by rw [← x2]; exact hc253))]
                           have hfin : nvI b s (z - s) = vEnd n b s ∧ z = xEnd n b s := by
                             unfold vEnd xEnd
                             rw [← hkd0, if_neg (by omega), if_pos hk2, if_pos (Or.inr hk2), e9]; exact ⟨rfl, rfl⟩
                           rw [hfin.1, hfin.2]
                           exact cutE 0 trivial)
                        | (have e9 : eoT n b s = z := by rw [m3, runT_no (p := fun j => isD (b j)) (bI_0.mp hc268)]
                           have hfin : nvI b s (z - s) = vEnd n b s ∧ z = xEnd n b s := by
                             unfold vEnd xEnd
                             rw [← hkd0, if_neg (by omega), if_pos hk2, if_pos (Or.inr hk2), e9]; exact ⟨rfl, rfl⟩
                           rw [hfin.1, hfin.2]
                           exact cutE 0 trivial)
                        | (have hfin : u = vEnd n b s ∧ z = xEnd n b s := by
                             have e : ¬ kd = 2 := fun w => hc242 (by rw [show nxG g z s kd 4825 = nI kd from rfl, w]; rfl)
                             obtain ⟨e1, e2⟩ := hm1 e
                             rw [e1, e2, hy1, hv1]
                             unfold vEnd xEnd
                             rw [← hkd0]
                             by_cases q1 : kd = 1
                             · rw [if_pos q1, if_pos q1, if_pos q1, if_pos (Or.inl q1)]
                               exact ⟨rfl, rfl⟩
                             · rw [if_neg q1, if_neg q1, if_neg q1, if_neg e, if_neg (fun w => w.elim q1 e), hx]
                               exact ⟨rfl, rfl⟩
                           rw [hfin.1, hfin.2]
                           exact cutE 0 trivial)
                      · skip
                        have hk2 : kd = 2 := nI_inj (by omega) (by decide) hc242
                        obtain ⟨m1, m2, m3, m4⟩ := hm2 hk2
                        subst m4
                        refine J_aload_0 C dX6_next_245 ?_
                        refine G6_geti C (n := 4823) 23 dX6_next_246 fX6_next_96 iX6_next_6 rfl (hS _ (by decide)) rfl rfl ?_
                        refine J_aload_0 C dX6_next_249 ?_
                        refine G6_geti C (n := 4801) 1 dX6_next_250 fX6_next_91 iX6_next_6 rfl (hS _ (by decide)) rfl rfl ?_
                        refine J_icmp_ge C 330 dX6_next_253 (by decide) (fun hc253 => ?_) (fun hc253 => ?_)
                        · skip
                          first
                          | (have e9 : eoT n b s = z := by rw [m3, runT_end (ge_nI (by omega) (by rw [← x2]; exact hc253))]
                             have hfin : nvI b s (z - s) = vEnd n b s ∧ z = xEnd n b s := by
                               unfold vEnd xEnd
                               rw [← hkd0, if_neg (by omega), if_pos hk2, if_pos (Or.inr hk2), e9]; exact ⟨rfl, rfl⟩
                             rw [hfin.1, hfin.2]
                             exact cutE 0 trivial)
                          | (have e9 : eoT n b s = z := by rw [m3, runT_no (p := fun j => isD (b j)) (bI_0.mp hc268)]
                             have hfin : nvI b s (z - s) = vEnd n b s ∧ z = xEnd n b s := by
                               unfold vEnd xEnd
                               rw [← hkd0, if_neg (by omega), if_pos hk2, if_pos (Or.inr hk2), e9]; exact ⟨rfl, rfl⟩
                             rw [hfin.1, hfin.2]
                             exact cutE 0 trivial)
                          | (have hfin : u = vEnd n b s ∧ z = xEnd n b s := by
                               have e : ¬ kd = 2 := fun w => hc242 (by rw [show nxG g z s kd 4825 = nI kd from rfl, w]; rfl)
                               obtain ⟨e1, e2⟩ := hm1 e
                               rw [e1, e2, hy1, hv1]
                               unfold vEnd xEnd
                               rw [← hkd0]
                               by_cases q1 : kd = 1
                               · rw [if_pos q1, if_pos q1, if_pos q1, if_pos (Or.inl q1)]
                                 exact ⟨rfl, rfl⟩
                               · rw [if_neg q1, if_neg q1, if_neg q1, if_neg e, if_neg (fun w => w.elim q1 e), hx]
                                 exact ⟨rfl, rfl⟩
                             rw [hfin.1, hfin.2]
                             exact cutE 0 trivial)
                        · skip
                          have hzn : z < n := lt_nI (by omega) (by rw [← x2]; exact hc253)
                          have hzb := (x3 z hzn).2
                          refine J_aload_0 C dX6_next_256 ?_
                          refine G6_getr C (n := 49) 0 dX6_next_257 fX6_next_7 iX6_next_6 rfl (hS _ (by decide)) rfl rfl ?_
                          refine J_aload_0 C dX6_next_260 ?_
                          refine G6_geti C (n := 4823) 23 dX6_next_261 fX6_next_96 iX6_next_6 rfl (hS _ (by decide)) rfl rfl ?_
                          refine G_iald C z dX6_next_264 rfl (hS _ (by decide)) rfl (by omega) ?_
                          rw [(x3 z hzn).1]
                          refine G_spi C dX6_next_265 (c_X6_isFigure E hM0 _ _ _ _ (b z) hzb) gX6_next_X6_isFigure rfl dm_X6_isFigure rfl rfl (Nat.le_of_ble_eq_true rfl) (rmOK_b rfl) (fun r265 hr265 => ?_)
                          subst hr265
                          refine J_if_eq C 330 dX6_next_268 (by decide) (fun hc268 => ?_) (fun hc268 => ?_)
                          · skip
                            first
                            | (have e9 : eoT n b s = z := by rw [m3, runT_end (ge_nI (by omega) (by rw [← x2]; exact hc253))]
                               have hfin : nvI b s (z - s) = vEnd n b s ∧ z = xEnd n b s := by
                                 unfold vEnd xEnd
                                 rw [← hkd0, if_neg (by omega), if_pos hk2, if_pos (Or.inr hk2), e9]; exact ⟨rfl, rfl⟩
                               rw [hfin.1, hfin.2]
                               exact cutE 0 trivial)
                            | (have e9 : eoT n b s = z := by rw [m3, runT_no (p := fun j => isD (b j)) (bI_0.mp hc268)]
                               have hfin : nvI b s (z - s) = vEnd n b s ∧ z = xEnd n b s := by
                                 unfold vEnd xEnd
                                 rw [← hkd0, if_neg (by omega), if_pos hk2, if_pos (Or.inr hk2), e9]; exact ⟨rfl, rfl⟩
                               rw [hfin.1, hfin.2]
                               exact cutE 0 trivial)
                            | (have hfin : u = vEnd n b s ∧ z = xEnd n b s := by
                                 have e : ¬ kd = 2 := fun w => hc242 (by rw [show nxG g z s kd 4825 = nI kd from rfl, w]; rfl)
                                 obtain ⟨e1, e2⟩ := hm1 e
                                 rw [e1, e2, hy1, hv1]
                                 unfold vEnd xEnd
                                 rw [← hkd0]
                                 by_cases q1 : kd = 1
                                 · rw [if_pos q1, if_pos q1, if_pos q1, if_pos (Or.inl q1)]
                                   exact ⟨rfl, rfl⟩
                                 · rw [if_neg q1, if_neg q1, if_neg q1, if_neg e, if_neg (fun w => w.elim q1 e), hx]
                                   exact ⟨rfl, rfl⟩
                               rw [hfin.1, hfin.2]
                               exact cutE 0 trivial)
                          · skip
                            have hfig := bI_n.mp hc268
                            have hfi1 : 48 ≤ b z := by
                              simp [isD] at hfig; omega
                            refine J_aload_0 C dX6_next_271 ?_
                            refine J_aload_0 C dX6_next_272 ?_
                            refine G6_geti C (n := 4823) 23 dX6_next_273 fX6_next_96 iX6_next_6 rfl (hS _ (by decide)) rfl rfl ?_
                            refine J_aload_0 C dX6_next_276 ?_
                            refine G6_geti C (n := 4824) 24 dX6_next_277 fX6_next_99 iX6_next_6 rfl (hS _ (by decide)) rfl rfl ?_
                            refine J_isub C dX6_next_280 ?_
                            rw [show nxG g z s kd 4823 - nxG g z s kd 4824 = nI (z - s) from nI_sub m1]
                            refine J_iconst C (2) dX6_next_281 ic_2 ?_
                            refine J_icmp_ge C 311 dX6_next_282 (by decide) (fun hc282 => ?_) (fun hc282 => ?_)
                            · skip
                              refine J_ldc2 C kcX6_next_126 dX6_next_311 ?_
                              refine J_topl (y := nvI b s (z + 1 - s)) (by
                                first
                                | (have e6 : z - s < 2 := by
                                     have e7 := lt_nI (m := 2) (t := z - s) (by omega) hc282
                                     omega
                                   have e8 := nv_nx (b := b) (s := s) (L := z - s) e6 (by rw [show s + (z - s) = z by omega]; omega)
                                   rw [show s + (z - s) = z by omega, show z - s + 1 = z + 1 - s by omega] at e8
                                   exact e8)
                                | (have e6 : 2 ≤ z - s := ge_nI (m := 2) (by decide) hc282
                                   unfold nvI
                                   rw [if_neg (by omega)])) ?_
                              refine G6_putl C (n := 4826) 26 dX6_next_314 fX6_next_102 iX6_next_6 rfl (hS _ (by decide)) rfl (tyX6_ok 26 (by decide)) rfl rfl ?_
                              refine J_aload_0 C dX6_next_317 ?_
                              refine J_dup C dX6_next_318 ?_
                              refine G6_geti C (n := 4823) 23 dX6_next_319 fX6_next_96 iX6_next_6 rfl (hS _ (by decide)) rfl rfl ?_
                              refine J_iconst C (1) dX6_next_322 ic_1 ?_
                              refine J_iadd C dX6_next_323 ?_
                              refine G6_puti C (n := 4823) 23 dX6_next_324 fX6_next_96 iX6_next_6 rfl (hS _ (by decide)) rfl (tyX6_ok 23 (by decide)) rfl rfl ?_
                              refine J_goto C 237 dX6_next_327 (by decide) ?_
                              refine J_gh (g' := nxG g (z + 1) s kd) (h' := vp_updL h 4826 (nvI b s (z + 1 - s))) (by rw [show nxG g z s kd 4823 + 1 = nI (z + 1) by rw [← nI_1]; rfl, nxG_at]) (by rw [updL2]) ?_
                              exact ih3 (z + 1) _ (fun w => absurd hk2 w) (fun _ => ⟨by omega, by omega, by rw [m3]; exact runT_go hzn hfig, rfl⟩) (by omega) (by omega)
                            · skip
                              refine J_ldc2 C kcX6_next_122 dX6_next_285 ?_
                              refine J_aload_0 C dX6_next_288 ?_
                              refine G6_getl C (n := 4826) 26 dX6_next_289 fX6_next_102 iX6_next_6 rfl (hS _ (by decide)) rfl rfl ?_
                              refine J_lmul C dX6_next_292 ?_
                              refine J_aload_0 C dX6_next_293 ?_
                              refine G6_getr C (n := 49) 0 dX6_next_294 fX6_next_7 iX6_next_6 rfl (hS _ (by decide)) rfl rfl ?_
                              refine J_aload_0 C dX6_next_297 ?_
                              refine G6_geti C (n := 4823) 23 dX6_next_298 fX6_next_96 iX6_next_6 rfl (hS _ (by decide)) rfl rfl ?_
                              refine G_iald C z dX6_next_301 rfl (hS _ (by decide)) rfl (by omega) ?_
                              rw [(x3 z hzn).1]
                              refine J_i2l C dX6_next_302 ?_
                              rw [nI_l (by omega)]
                              refine J_ladd C dX6_next_303 ?_
                              refine J_ldc2 C kcX6_next_124 dX6_next_304 ?_
                              refine J_lsub C dX6_next_307 ?_
                              refine J_goto C 314 dX6_next_308 (by decide) ?_
                              refine J_topl (y := nvI b s (z + 1 - s)) (by
                                first
                                | (have e6 : z - s < 2 := by
                                     have e7 := lt_nI (m := 2) (t := z - s) (by omega) hc282
                                     omega
                                   have e8 := nv_nx (b := b) (s := s) (L := z - s) e6 (by rw [show s + (z - s) = z by omega]; omega)
                                   rw [show s + (z - s) = z by omega, show z - s + 1 = z + 1 - s by omega] at e8
                                   exact e8)
                                | (have e6 : 2 ≤ z - s := ge_nI (m := 2) (by decide) hc282
                                   unfold nvI
                                   rw [if_neg (by omega)])) ?_
                              refine G6_putl C (n := 4826) 26 dX6_next_314 fX6_next_102 iX6_next_6 rfl (hS _ (by decide)) rfl (tyX6_ok 26 (by decide)) rfl rfl ?_
                              refine J_aload_0 C dX6_next_317 ?_
                              refine J_dup C dX6_next_318 ?_
                              refine G6_geti C (n := 4823) 23 dX6_next_319 fX6_next_96 iX6_next_6 rfl (hS _ (by decide)) rfl rfl ?_
                              refine J_iconst C (1) dX6_next_322 ic_1 ?_
                              refine J_iadd C dX6_next_323 ?_
                              refine G6_puti C (n := 4823) 23 dX6_next_324 fX6_next_96 iX6_next_6 rfl (hS _ (by decide)) rfl (tyX6_ok 23 (by decide)) rfl rfl ?_
                              refine J_goto C 237 dX6_next_327 (by decide) ?_
                              refine J_gh (g' := nxG g (z + 1) s kd) (h' := vp_updL h 4826 (nvI b s (z + 1 - s))) (by rw [show nxG g z s kd 4823 + 1 = nI (z + 1) by rw [← nI_1]; rfl, nxG_at]) (by rw [updL2]) ?_
                              exact ih3 (z + 1) _ (fun w => absurd hk2 w) (fun _ => ⟨by omega, by omega, by rw [m3]; exact runT_go hzn hfig, rfl⟩) (by omega) (by omega)
                  have hb2 : kd = 2 → y1 = s := fun z => by rw [hy1, if_neg (by omega), hx, if_neg (by omega)]
                  have hb3 : kd = 2 → v1 = 0 := fun z => by rw [hv1, if_neg (by omega)]
                  exact loop3 (n + 2) y1 v1 (fun _ => ⟨rfl, rfl⟩) (fun w => ⟨by rw [hb2 w]; omega, by rw [hb2 w]; omega, by rw [hb2 w]; exact eoT_D (kdN_2 (hkd0 ▸ w)).1 (kdN_2 (hkd0 ▸ w)).2.1 (kdN_2 (hkd0 ▸ w)).2.2, by rw [hb2 w, Nat.sub_self, hb3 w]; rfl⟩) hy1n (by omega)
                refine G6_geti C (n := 4825) 25 dX6_next_144 fX6_next_113 iX6_next_6 rfl (hS _ (by decide)) rfl rfl ?_
                refine J_iconst C (1) dX6_next_147 ic_1 ?_
                refine J_icmp_ne C 237 dX6_next_148 (by decide) (fun hc148 => ?_) (fun hc148 => ?_)
                · skip
                  first
                  | (have e9 : eoT n b s = y := by rw [l3, runT_end (ge_nI (by omega) (by rw [← x2]; exact hc159))]
                     have hfin : hvI b s (y - s) = v1 ∧ y = y1 := by
                       rw [hy1, hv1, if_pos hkd, if_pos hkd, e9]; exact ⟨rfl, rfl⟩
                     rw [hfin.1, hfin.2]
                     exact cutD 0 trivial)
                  | (have e9 : eoT n b s = y := by rw [l3, runT_no (p := fun j => isL (b j)) (bI_0.mp hc174)]
                     have hfin : hvI b s (y - s) = v1 ∧ y = y1 := by
                       rw [hy1, hv1, if_pos hkd, if_pos hkd, e9]; exact ⟨rfl, rfl⟩
                     rw [hfin.1, hfin.2]
                     exact cutD 0 trivial)
                  | (have hfin : v = v1 ∧ y = y1 := by
                       rw [hy1, hv1]
                       have e : ¬ kd = 1 := fun z => hc148 (by rw [show nxG g y s kd 4825 = nI kd from rfl, z]; rfl)
                       obtain ⟨e1, e2⟩ := hl1 e
                       rw [if_neg e, if_neg e]; exact ⟨e2, e1⟩
                     rw [hfin.1, hfin.2]
                     exact cutD 0 trivial)
                · skip
                  have hkd : kd = 1 := nI_inj (by omega) (by decide) hc148
                  obtain ⟨l1, l2, l3, l4⟩ := hl2 hkd
                  subst l4
                  refine J_aload_0 C dX6_next_151 ?_
                  refine G6_geti C (n := 4823) 23 dX6_next_152 fX6_next_96 iX6_next_6 rfl (hS _ (by decide)) rfl rfl ?_
                  refine J_aload_0 C dX6_next_155 ?_
                  refine G6_geti C (n := 4801) 1 dX6_next_156 fX6_next_91 iX6_next_6 rfl (hS _ (by decide)) rfl rfl ?_
                  refine J_icmp_ge C 237 dX6_next_159 (by decide) (fun hc159 => ?_) (fun hc159 => ?_)
                  · skip
                    first
                    | (have e9 : eoT n b s = y := by rw [l3, runT_end (ge_nI (by omega) (by rw [← x2]; exact hc159))]
                       have hfin : hvI b s (y - s) = v1 ∧ y = y1 := by
                         rw [hy1, hv1, if_pos hkd, if_pos hkd, e9]; exact ⟨rfl, rfl⟩
                       rw [hfin.1, hfin.2]
                       exact cutD 0 trivial)
                    | (have e9 : eoT n b s = y := by rw [l3, runT_no (p := fun j => isL (b j)) (bI_0.mp hc174)]
                       have hfin : hvI b s (y - s) = v1 ∧ y = y1 := by
                         rw [hy1, hv1, if_pos hkd, if_pos hkd, e9]; exact ⟨rfl, rfl⟩
                       rw [hfin.1, hfin.2]
                       exact cutD 0 trivial)
                    | (have hfin : v = v1 ∧ y = y1 := by
                         rw [hy1, hv1]
                         have e : ¬ kd = 1 := fun z => hc148 (by rw [show nxG g y s kd 4825 = nI kd from rfl, z]; rfl)
                         obtain ⟨e1, e2⟩ := hl1 e
                         rw [if_neg e, if_neg e]; exact ⟨e2, e1⟩
                       rw [hfin.1, hfin.2]
                       exact cutD 0 trivial)
                  · skip
                    have hyn : y < n := lt_nI (by omega) (by rw [← x2]; exact hc159)
                    have hyb := (x3 y hyn).2
                    refine J_aload_0 C dX6_next_162 ?_
                    refine G6_getr C (n := 49) 0 dX6_next_163 fX6_next_7 iX6_next_6 rfl (hS _ (by decide)) rfl rfl ?_
                    refine J_aload_0 C dX6_next_166 ?_
                    refine G6_geti C (n := 4823) 23 dX6_next_167 fX6_next_96 iX6_next_6 rfl (hS _ (by decide)) rfl rfl ?_
                    refine G_iald C y dX6_next_170 rfl (hS _ (by decide)) rfl (by omega) ?_
                    rw [(x3 y hyn).1]
                    refine G_spi C dX6_next_171 (c_X6_isLetter E hM0 _ _ _ _ (b y) hyb) gX6_next_X6_isLetter rfl dm_X6_isLetter rfl rfl (Nat.le_of_ble_eq_true rfl) (rmOK_b rfl) (fun r171 hr171 => ?_)
                    subst hr171
                    refine J_if_eq C 237 dX6_next_174 (by decide) (fun hc174 => ?_) (fun hc174 => ?_)
                    · skip
                      first
                      | (have e9 : eoT n b s = y := by rw [l3, runT_end (ge_nI (by omega) (by rw [← x2]; exact hc159))]
                         have hfin : hvI b s (y - s) = v1 ∧ y = y1 := by
                           rw [hy1, hv1, if_pos hkd, if_pos hkd, e9]; exact ⟨rfl, rfl⟩
                         rw [hfin.1, hfin.2]
                         exact cutD 0 trivial)
                      | (have e9 : eoT n b s = y := by rw [l3, runT_no (p := fun j => isL (b j)) (bI_0.mp hc174)]
                         have hfin : hvI b s (y - s) = v1 ∧ y = y1 := by
                           rw [hy1, hv1, if_pos hkd, if_pos hkd, e9]; exact ⟨rfl, rfl⟩
                         rw [hfin.1, hfin.2]
                         exact cutD 0 trivial)
                      | (have hfin : v = v1 ∧ y = y1 := by
                           rw [hy1, hv1]
                           have e : ¬ kd = 1 := fun z => hc148 (by rw [show nxG g y s kd 4825 = nI kd from rfl, z]; rfl)
                           obtain ⟨e1, e2⟩ := hl1 e
                           rw [if_neg e, if_neg e]; exact ⟨e2, e1⟩
                         rw [hfin.1, hfin.2]
                         exact cutD 0 trivial)
                    · skip
                      have hlet := bI_n.mp hc174
                      have hle1 : 97 ≤ b y := by
                        simp [isL] at hlet; omega
                      refine J_aload_0 C dX6_next_177 ?_
                      refine J_aload_0 C dX6_next_178 ?_
                      refine G6_geti C (n := 4823) 23 dX6_next_179 fX6_next_96 iX6_next_6 rfl (hS _ (by decide)) rfl rfl ?_
                      refine J_aload_0 C dX6_next_182 ?_
                      refine G6_geti C (n := 4824) 24 dX6_next_183 fX6_next_99 iX6_next_6 rfl (hS _ (by decide)) rfl rfl ?_
                      refine J_isub C dX6_next_186 ?_
                      rw [show nxG g y s kd 4823 - nxG g y s kd 4824 = nI (y - s) from nI_sub l1]
                      refine J_bipush C (6) dX6_next_187 bc_6 ?_
                      refine J_icmp_ge C 218 dX6_next_189 (by decide) (fun hc189 => ?_) (fun hc189 => ?_)
                      · skip
                        refine J_ldc2 C kcX6_next_120 dX6_next_218 ?_
                        refine J_topl (y := hvI b s (y + 1 - s)) (by
                          first
                          | (have e6 : y - s < 6 := by
                               have e7 := lt_nI (m := 6) (t := y - s) (by omega) hc189
                               omega
                             have e8 := hv_nx (b := b) (s := s) (L := y - s) e6 (by rw [show s + (y - s) = y by omega]; omega)
                             rw [show s + (y - s) = y by omega, show y - s + 1 = y + 1 - s by omega] at e8
                             exact e8)
                          | (have e6 : 6 ≤ y - s := ge_nI (m := 6) (by decide) hc189
                             unfold hvI
                             rw [if_neg (by omega)])) ?_
                        refine G6_putl C (n := 4826) 26 dX6_next_221 fX6_next_102 iX6_next_6 rfl (hS _ (by decide)) rfl (tyX6_ok 26 (by decide)) rfl rfl ?_
                        refine J_aload_0 C dX6_next_224 ?_
                        refine J_dup C dX6_next_225 ?_
                        refine G6_geti C (n := 4823) 23 dX6_next_226 fX6_next_96 iX6_next_6 rfl (hS _ (by decide)) rfl rfl ?_
                        refine J_iconst C (1) dX6_next_229 ic_1 ?_
                        refine J_iadd C dX6_next_230 ?_
                        refine G6_puti C (n := 4823) 23 dX6_next_231 fX6_next_96 iX6_next_6 rfl (hS _ (by decide)) rfl (tyX6_ok 23 (by decide)) rfl rfl ?_
                        refine J_goto C 143 dX6_next_234 (by decide) ?_
                        refine J_gh (g' := nxG g (y + 1) s kd) (h' := vp_updL h 4826 (hvI b s (y + 1 - s))) (by rw [show nxG g y s kd 4823 + 1 = nI (y + 1) by rw [← nI_1]; rfl, nxG_at]) (by rw [updL2]) ?_
                        exact ih2 (y + 1) _ (fun w => absurd hkd w) (fun _ => ⟨by omega, by omega, by rw [l3]; exact runT_go hyn hlet, rfl⟩) (by omega) (by omega)
                      · skip
                        refine J_ldc2 C kcX6_next_116 dX6_next_192 ?_
                        refine J_aload_0 C dX6_next_195 ?_
                        refine G6_getl C (n := 4826) 26 dX6_next_196 fX6_next_102 iX6_next_6 rfl (hS _ (by decide)) rfl rfl ?_
                        refine J_lmul C dX6_next_199 ?_
                        refine J_aload_0 C dX6_next_200 ?_
                        refine G6_getr C (n := 49) 0 dX6_next_201 fX6_next_7 iX6_next_6 rfl (hS _ (by decide)) rfl rfl ?_
                        refine J_aload_0 C dX6_next_204 ?_
                        refine G6_geti C (n := 4823) 23 dX6_next_205 fX6_next_96 iX6_next_6 rfl (hS _ (by decide)) rfl rfl ?_
                        refine G_iald C y dX6_next_208 rfl (hS _ (by decide)) rfl (by omega) ?_
                        rw [(x3 y hyn).1]
                        refine J_i2l C dX6_next_209 ?_
                        rw [nI_l (by omega)]
                        refine J_ladd C dX6_next_210 ?_
                        refine J_ldc2 C kcX6_next_118 dX6_next_211 ?_
                        refine J_lsub C dX6_next_214 ?_
                        refine J_goto C 221 dX6_next_215 (by decide) ?_
                        refine J_topl (y := hvI b s (y + 1 - s)) (by
                          first
                          | (have e6 : y - s < 6 := by
                               have e7 := lt_nI (m := 6) (t := y - s) (by omega) hc189
                               omega
                             have e8 := hv_nx (b := b) (s := s) (L := y - s) e6 (by rw [show s + (y - s) = y by omega]; omega)
                             rw [show s + (y - s) = y by omega, show y - s + 1 = y + 1 - s by omega] at e8
                             exact e8)
                          | (have e6 : 6 ≤ y - s := ge_nI (m := 6) (by decide) hc189
                             unfold hvI
                             rw [if_neg (by omega)])) ?_
                        refine G6_putl C (n := 4826) 26 dX6_next_221 fX6_next_102 iX6_next_6 rfl (hS _ (by decide)) rfl (tyX6_ok 26 (by decide)) rfl rfl ?_
                        refine J_aload_0 C dX6_next_224 ?_
                        refine J_dup C dX6_next_225 ?_
                        refine G6_geti C (n := 4823) 23 dX6_next_226 fX6_next_96 iX6_next_6 rfl (hS _ (by decide)) rfl rfl ?_
                        refine J_iconst C (1) dX6_next_229 ic_1 ?_
                        refine J_iadd C dX6_next_230 ?_
                        refine G6_puti C (n := 4823) 23 dX6_next_231 fX6_next_96 iX6_next_6 rfl (hS _ (by decide)) rfl (tyX6_ok 23 (by decide)) rfl rfl ?_
                        refine J_goto C 143 dX6_next_234 (by decide) ?_
                        refine J_gh (g' := nxG g (y + 1) s kd) (h' := vp_updL h 4826 (hvI b s (y + 1 - s))) (by rw [show nxG g y s kd 4823 + 1 = nI (y + 1) by rw [← nI_1]; rfl, nxG_at]) (by rw [updL2]) ?_
                        exact ih2 (y + 1) _ (fun w => absurd hkd w) (fun _ => ⟨by omega, by omega, by rw [l3]; exact runT_go hyn hlet, rfl⟩) (by omega) (by omega)
            have hb1 : kd = 1 → x = s := fun z => by rw [hx, if_neg (by omega)]
            exact loop2 (n + 2) x 0 (fun _ => ⟨rfl, rfl⟩) (fun z => ⟨by rw [hb1 z]; omega, by rw [hb1 z]; omega, by rw [hb1 z]; exact eoT_L (kdN_1 (hkd0 ▸ z)).1 (kdN_1 (hkd0 ▸ z)).2, by rw [hb1 z, Nat.sub_self]; rfl⟩) hxn (by omega)
          refine G6_geti C (n := 4823) 23 dX6_next_123 fX6_next_96 iX6_next_6 rfl (hS _ (by decide)) rfl rfl ?_
          refine J_aload_0 C dX6_next_126 ?_
          refine G6_geti C (n := 4825) 25 dX6_next_127 fX6_next_113 iX6_next_6 rfl (hS _ (by decide)) rfl rfl ?_
          refine J_iconst C (3) dX6_next_130 ic_3 ?_
          refine J_icmp_ne C 138 dX6_next_131 (by decide) (fun hc131 => ?_) (fun hc131 => ?_)
          · skip
            refine J_iconst C (0) dX6_next_138 ic_0 ?_
            refine J_iadd C dX6_next_139 ?_
            refine G6_puti C (n := 4823) 23 dX6_next_140 fX6_next_96 iX6_next_6 rfl (hS _ (by decide)) rfl (tyX6_ok 23 (by decide)) rfl rfl ?_
            refine J_gh (g' := nxG g (if kd = 3 then s + 1 else s) s kd) (h' := vp_updL h 4826 0) ?_ rfl (cutC _ _ rfl)
            first
            | (have e : kd = 3 := nI_inj (by omega) (by decide) hc131
               rw [if_pos e, show nxG g s s kd 4823 + 1 = nI (s + 1) by rw [← nI_1]; rfl, nxG_at])
            | (have e : ¬ kd = 3 := fun z => hc131 (by rw [show nxG g s s kd 4825 = nI kd from rfl, z]; rfl)
               rw [if_neg e, show nxG g s s kd 4823 + 0 = nI s by rw [show nxG g s s kd 4823 = nI s from rfl]; exact Int32.add_zero _, nxG_at])
          · skip
            refine J_iconst C (1) dX6_next_134 ic_1 ?_
            refine J_goto C 139 dX6_next_135 (by decide) ?_
            refine J_iadd C dX6_next_139 ?_
            refine G6_puti C (n := 4823) 23 dX6_next_140 fX6_next_96 iX6_next_6 rfl (hS _ (by decide)) rfl (tyX6_ok 23 (by decide)) rfl rfl ?_
            refine J_gh (g' := nxG g (if kd = 3 then s + 1 else s) s kd) (h' := vp_updL h 4826 0) ?_ rfl (cutC _ _ rfl)
            first
            | (have e : kd = 3 := nI_inj (by omega) (by decide) hc131
               rw [if_pos e, show nxG g s s kd 4823 + 1 = nI (s + 1) by rw [← nI_1]; rfl, nxG_at])
            | (have e : ¬ kd = 3 := fun z => hc131 (by rw [show nxG g s s kd 4825 = nI kd from rfl, z]; rfl)
               rw [if_neg e, show nxG g s s kd 4823 + 0 = nI s by rw [show nxG g s s kd 4823 = nI s from rfl]; exact Int32.add_zero _, nxG_at])
        refine J_lconst C (0) dX6_next_47 lc_0 ?_
        refine G6_putl C (n := 4826) 26 dX6_next_48 fX6_next_102 iX6_next_6 rfl (hS _ (by decide)) rfl (tyX6_ok 26 (by decide)) rfl rfl ?_
        refine J_aload_0 C dX6_next_51 ?_
        have cutB0 : ∀ (_z : Nat), True → J E Y (eN E) 0 0 (wS E (upd (upd g 4823 (nI s)) 4824 (nI s)) (vp_updL h 4826 0) T L) 76 [some (.ref (eA E 48)), some (.int cI)] [] := by
          intro _ _
          refine J_aload_0 C dX6_next_76 ?_
          refine J_iload_1 C dX6_next_77 ?_
          refine J_if_ge C 85 dX6_next_78 (by decide) (fun hc78 => ?_) (fun hc78 => ?_)
          · skip
            have hk : s < n := Decidable.byContradiction fun z => by rw [hcI1 z] at hc78; exact absurd hc78 (by decide)
            rw [hcI0 hk]
            refine J_iload_1 C dX6_next_85 ?_
            refine G_spi C dX6_next_86 (c_X6_isLetter E hM0 _ _ _ _ (b s) (x3 s hk).2) gX6_next_X6_isLetter rfl dm_X6_isLetter rfl rfl (Nat.le_of_ble_eq_true rfl) (rmOK_b rfl) (fun r86 hr86 => ?_)
            subst hr86
            refine J_if_eq C 96 dX6_next_89 (by decide) (fun hc89 => ?_) (fun hc89 => ?_)
            · skip
              refine J_iload_1 C dX6_next_96 ?_
              refine G_spi C dX6_next_97 (c_X6_isFigure E hM0 _ _ _ _ (b s) (x3 s hk).2) gX6_next_X6_isFigure rfl dm_X6_isFigure rfl rfl (Nat.le_of_ble_eq_true rfl) (rmOK_b rfl) (fun r97 hr97 => ?_)
              subst hr97
              refine J_if_eq C 107 dX6_next_100 (by decide) (fun hc100 => ?_) (fun hc100 => ?_)
              · skip
                refine J_iload_1 C dX6_next_107 ?_
                refine J_bipush C (59) dX6_next_108 bc_59 ?_
                refine J_icmp_ne C 117 dX6_next_110 (by decide) (fun hc110 => ?_) (fun hc110 => ?_)
                · skip
                  refine J_iconst C (4) dX6_next_117 ic_4 ?_
                  refine G6_puti C (n := 4825) 25 dX6_next_118 fX6_next_113 iX6_next_6 rfl (hS _ (by decide)) rfl (tyX6_ok 25 (by decide)) rfl rfl ?_
                  refine J_gh (g' := nxG g s s (kdN n b s)) (h' := vp_updL h 4826 0) ?_ rfl (cutB _ trivial)
                  have hkd1 : ∀ v : Nat, kdN n b s = v → upd (upd (upd g 4823 (nI s)) 4824 (nI s)) 4825 (nI v) = nxG g s s (kdN n b s) := by
                    intro v hv
                    rw [hv]
                    funext k
                    unfold upd nxG
                    by_cases e1 : k = 4823 <;> by_cases e2 : k = 4824 <;> by_cases e3 : k = 4825 <;> simp_all
                  first
                  | exact hkd1 0 (by
                      have hk : n ≤ s := Nat.le_of_not_lt fun z => by
                        rw [hcI0 z] at hc78
                        exact hc78 (nI_pos' (by have := (x3 s z).2; omega))
                      unfold kdN; rw [if_pos hk])
                  | (have h256 := (x3 s hk).2
                     first
                     | exact hkd1 1 (by unfold kdN; rw [if_neg (by omega), if_pos (bI_n.mp hc89)])
                     | exact hkd1 2 (by unfold kdN; rw [if_neg (by omega), if_neg (by rw [bI_0.mp hc89]; decide), if_pos (bI_n.mp hc100)])
                     | exact hkd1 3 (by unfold kdN; rw [if_neg (by omega), if_neg (by rw [bI_0.mp hc89]; decide), if_neg (by rw [bI_0.mp hc100]; decide), if_pos (nI_inj (by omega) (by decide) hc110)])
                     | exact hkd1 4 (by unfold kdN; rw [if_neg (by omega), if_neg (by rw [bI_0.mp hc89]; decide), if_neg (by rw [bI_0.mp hc100]; decide), if_neg (fun z => hc110 (by rw [z]; rfl))]))
                · skip
                  refine J_iconst C (3) dX6_next_113 ic_3 ?_
                  refine J_goto C 118 dX6_next_114 (by decide) ?_
                  refine G6_puti C (n := 4825) 25 dX6_next_118 fX6_next_113 iX6_next_6 rfl (hS _ (by decide)) rfl (tyX6_ok 25 (by decide)) rfl rfl ?_
                  refine J_gh (g' := nxG g s s (kdN n b s)) (h' := vp_updL h 4826 0) ?_ rfl (cutB _ trivial)
                  have hkd1 : ∀ v : Nat, kdN n b s = v → upd (upd (upd g 4823 (nI s)) 4824 (nI s)) 4825 (nI v) = nxG g s s (kdN n b s) := by
                    intro v hv
                    rw [hv]
                    funext k
                    unfold upd nxG
                    by_cases e1 : k = 4823 <;> by_cases e2 : k = 4824 <;> by_cases e3 : k = 4825 <;> simp_all
                  first
                  | exact hkd1 0 (by
                      have hk : n ≤ s := Nat.le_of_not_lt fun z => by
                        rw [hcI0 z] at hc78
                        exact hc78 (nI_pos' (by have := (x3 s z).2; omega))
                      unfold kdN; rw [if_pos hk])
                  | (have h256 := (x3 s hk).2
                     first
                     | exact hkd1 1 (by unfold kdN; rw [if_neg (by omega), if_pos (bI_n.mp hc89)])
                     | exact hkd1 2 (by unfold kdN; rw [if_neg (by omega), if_neg (by rw [bI_0.mp hc89]; decide), if_pos (bI_n.mp hc100)])
                     | exact hkd1 3 (by unfold kdN; rw [if_neg (by omega), if_neg (by rw [bI_0.mp hc89]; decide), if_neg (by rw [bI_0.mp hc100]; decide), if_pos (nI_inj (by omega) (by decide) hc110)])
                     | exact hkd1 4 (by unfold kdN; rw [if_neg (by omega), if_neg (by rw [bI_0.mp hc89]; decide), if_neg (by rw [bI_0.mp hc100]; decide), if_neg (fun z => hc110 (by rw [z]; rfl))]))
              · skip
                refine J_iconst C (2) dX6_next_103 ic_2 ?_
                refine J_goto C 118 dX6_next_104 (by decide) ?_
                refine G6_puti C (n := 4825) 25 dX6_next_118 fX6_next_113 iX6_next_6 rfl (hS _ (by decide)) rfl (tyX6_ok 25 (by decide)) rfl rfl ?_
                refine J_gh (g' := nxG g s s (kdN n b s)) (h' := vp_updL h 4826 0) ?_ rfl (cutB _ trivial)
                have hkd1 : ∀ v : Nat, kdN n b s = v → upd (upd (upd g 4823 (nI s)) 4824 (nI s)) 4825 (nI v) = nxG g s s (kdN n b s) := by
                  intro v hv
                  rw [hv]
                  funext k
                  unfold upd nxG
                  by_cases e1 : k = 4823 <;> by_cases e2 : k = 4824 <;> by_cases e3 : k = 4825 <;> simp_all
                first
                | exact hkd1 0 (by
                    have hk : n ≤ s := Nat.le_of_not_lt fun z => by
                      rw [hcI0 z] at hc78
                      exact hc78 (nI_pos' (by have := (x3 s z).2; omega))
                    unfold kdN; rw [if_pos hk])
                | (have h256 := (x3 s hk).2
                   first
                   | exact hkd1 1 (by unfold kdN; rw [if_neg (by omega), if_pos (bI_n.mp hc89)])
                   | exact hkd1 2 (by unfold kdN; rw [if_neg (by omega), if_neg (by rw [bI_0.mp hc89]; decide), if_pos (bI_n.mp hc100)])
                   | exact hkd1 3 (by unfold kdN; rw [if_neg (by omega), if_neg (by rw [bI_0.mp hc89]; decide), if_neg (by rw [bI_0.mp hc100]; decide), if_pos (nI_inj (by omega) (by decide) hc110)])
                   | exact hkd1 4 (by unfold kdN; rw [if_neg (by omega), if_neg (by rw [bI_0.mp hc89]; decide), if_neg (by rw [bI_0.mp hc100]; decide), if_neg (fun z => hc110 (by rw [z]; rfl))]))
            · skip
              refine J_iconst C (1) dX6_next_92 ic_1 ?_
              refine J_goto C 118 dX6_next_93 (by decide) ?_
              refine G6_puti C (n := 4825) 25 dX6_next_118 fX6_next_113 iX6_next_6 rfl (hS _ (by decide)) rfl (tyX6_ok 25 (by decide)) rfl rfl ?_
              refine J_gh (g' := nxG g s s (kdN n b s)) (h' := vp_updL h 4826 0) ?_ rfl (cutB _ trivial)
              have hkd1 : ∀ v : Nat, kdN n b s = v → upd (upd (upd g 4823 (nI s)) 4824 (nI s)) 4825 (nI v) = nxG g s s (kdN n b s) := by
                intro v hv
                rw [hv]
                funext k
                unfold upd nxG
                by_cases e1 : k = 4823 <;> by_cases e2 : k = 4824 <;> by_cases e3 : k = 4825 <;> simp_all
              first
              | exact hkd1 0 (by
                  have hk : n ≤ s := Nat.le_of_not_lt fun z => by
                    rw [hcI0 z] at hc78
                    exact hc78 (nI_pos' (by have := (x3 s z).2; omega))
                  unfold kdN; rw [if_pos hk])
              | (have h256 := (x3 s hk).2
                 first
                 | exact hkd1 1 (by unfold kdN; rw [if_neg (by omega), if_pos (bI_n.mp hc89)])
                 | exact hkd1 2 (by unfold kdN; rw [if_neg (by omega), if_neg (by rw [bI_0.mp hc89]; decide), if_pos (bI_n.mp hc100)])
                 | exact hkd1 3 (by unfold kdN; rw [if_neg (by omega), if_neg (by rw [bI_0.mp hc89]; decide), if_neg (by rw [bI_0.mp hc100]; decide), if_pos (nI_inj (by omega) (by decide) hc110)])
                 | exact hkd1 4 (by unfold kdN; rw [if_neg (by omega), if_neg (by rw [bI_0.mp hc89]; decide), if_neg (by rw [bI_0.mp hc100]; decide), if_neg (fun z => hc110 (by rw [z]; rfl))]))
          · skip
            refine J_iconst C (0) dX6_next_81 ic_0 ?_
            refine J_goto C 118 dX6_next_82 (by decide) ?_
            refine G6_puti C (n := 4825) 25 dX6_next_118 fX6_next_113 iX6_next_6 rfl (hS _ (by decide)) rfl (tyX6_ok 25 (by decide)) rfl rfl ?_
            refine J_gh (g' := nxG g s s (kdN n b s)) (h' := vp_updL h 4826 0) ?_ rfl (cutB _ trivial)
            have hkd1 : ∀ v : Nat, kdN n b s = v → upd (upd (upd g 4823 (nI s)) 4824 (nI s)) 4825 (nI v) = nxG g s s (kdN n b s) := by
              intro v hv
              rw [hv]
              funext k
              unfold upd nxG
              by_cases e1 : k = 4823 <;> by_cases e2 : k = 4824 <;> by_cases e3 : k = 4825 <;> simp_all
            first
            | exact hkd1 0 (by
                have hk : n ≤ s := Nat.le_of_not_lt fun z => by
                  rw [hcI0 z] at hc78
                  exact hc78 (nI_pos' (by have := (x3 s z).2; omega))
                unfold kdN; rw [if_pos hk])
            | (have h256 := (x3 s hk).2
               first
               | exact hkd1 1 (by unfold kdN; rw [if_neg (by omega), if_pos (bI_n.mp hc89)])
               | exact hkd1 2 (by unfold kdN; rw [if_neg (by omega), if_neg (by rw [bI_0.mp hc89]; decide), if_pos (bI_n.mp hc100)])
               | exact hkd1 3 (by unfold kdN; rw [if_neg (by omega), if_neg (by rw [bI_0.mp hc89]; decide), if_neg (by rw [bI_0.mp hc100]; decide), if_pos (nI_inj (by omega) (by decide) hc110)])
               | exact hkd1 4 (by unfold kdN; rw [if_neg (by omega), if_neg (by rw [bI_0.mp hc89]; decide), if_neg (by rw [bI_0.mp hc100]; decide), if_neg (fun z => hc110 (by rw [z]; rfl))]))
        refine G6_geti C (n := 4823) 23 dX6_next_52 fX6_next_96 iX6_next_6 rfl (hS _ (by decide)) rfl rfl ?_
        refine J_aload_0 C dX6_next_55 ?_
        refine G6_geti C (n := 4801) 1 dX6_next_56 fX6_next_91 iX6_next_6 rfl (hS _ (by decide)) rfl rfl ?_
        refine J_icmp_ge C 74 dX6_next_59 (by decide) (fun hc59 => ?_) (fun hc59 => ?_)
        · skip
          refine J_iconst C (-1) dX6_next_74 ic_m1 ?_
          refine J_istore_1 C dX6_next_75 (by decide) trivial ?_
          have hz76 := 0
          first
          | (have e : cI = nI (b s) := by
               have hk : s < n := lt_nI (by omega) (by rw [← x2]; exact hc59)
               rw [hcI, if_pos hk]
             rw [← e]
             exact cutB0 0 trivial)
          | (have e : cI = -1 := by
               have hk : n ≤ s := ge_nI (by omega) (by rw [← x2]; exact hc59)
               rw [hcI, if_neg (by omega)]
             rw [← e]
             exact cutB0 0 trivial)
        · skip
          refine J_aload_0 C dX6_next_62 ?_
          refine G6_getr C (n := 49) 0 dX6_next_63 fX6_next_7 iX6_next_6 rfl (hS _ (by decide)) rfl rfl ?_
          refine J_aload_0 C dX6_next_66 ?_
          refine G6_geti C (n := 4823) 23 dX6_next_67 fX6_next_96 iX6_next_6 rfl (hS _ (by decide)) rfl rfl ?_
          refine G_iald C s dX6_next_70 rfl (hS _ (by decide)) rfl (by have := lt_nI (t := s) (by omega) (by rw [← x2]; exact hc59); omega) ?_
          rw [(x3 s (lt_nI (by omega) (by rw [← x2]; exact hc59))).1]
          refine J_goto C 75 dX6_next_71 (by decide) ?_
          refine J_istore_1 C dX6_next_75 (by decide) trivial ?_
          have hz76 := 0
          first
          | (have e : cI = nI (b s) := by
               have hk : s < n := lt_nI (by omega) (by rw [← x2]; exact hc59)
               rw [hcI, if_pos hk]
             rw [← e]
             exact cutB0 0 trivial)
          | (have e : cI = -1 := by
               have hk : n ≤ s := ge_nI (by omega) (by rw [← x2]; exact hc59)
               rw [hcI, if_neg (by omega)]
             rw [← e]
             exact cutB0 0 trivial)
      refine G6_geti C (n := 4823) 23 dX6_next_1 fX6_next_96 iX6_next_6 rfl (hS _ (by decide)) rfl rfl ?_
      refine J_aload_0 C dX6_next_4 ?_
      refine G6_geti C (n := 4801) 1 dX6_next_5 fX6_next_91 iX6_next_6 rfl (hS _ (by decide)) rfl rfl ?_
      refine J_icmp_ge C 38 dX6_next_8 (by decide) (fun hc8 => ?_) (fun hc8 => ?_)
      · skip
        first
        | (have hk : n ≤ k := ge_nI (by omega) (by rw [← x2]; exact hc8)
           rw [show k = s by rw [h4, runT_end hk]]
           exact cutA 0 trivial)
        | (rw [show k = s by rw [h4, runT_no (by
            simp
            intro z
            exact hc22 (by rw [z]; rfl))]]
           exact cutA 0 trivial)
      · skip
        have hk : k < n := lt_nI (by omega) (by rw [← x2]; exact hc8)
        refine J_aload_0 C dX6_next_11 ?_
        refine G6_getr C (n := 49) 0 dX6_next_12 fX6_next_7 iX6_next_6 rfl (hS _ (by decide)) rfl rfl ?_
        refine J_aload_0 C dX6_next_15 ?_
        refine G6_geti C (n := 4823) 23 dX6_next_16 fX6_next_96 iX6_next_6 rfl (hS _ (by decide)) rfl rfl ?_
        refine G_iald C k dX6_next_19 rfl (hS _ (by decide)) rfl (by omega) ?_
        rw [(x3 k hk).1]
        refine J_bipush C (32) dX6_next_20 bc_32 ?_
        refine J_icmp_ne C 38 dX6_next_22 (by decide) (fun hc22 => ?_) (fun hc22 => ?_)
        · skip
          first
          | (have hk : n ≤ k := ge_nI (by omega) (by rw [← x2]; exact hc8)
             rw [show k = s by rw [h4, runT_end hk]]
             exact cutA 0 trivial)
          | (rw [show k = s by rw [h4, runT_no (by
              simp
              intro z
              exact hc22 (by rw [z]; rfl))]]
             exact cutA 0 trivial)
        · skip
          refine J_aload_0 C dX6_next_25 ?_
          refine J_dup C dX6_next_26 ?_
          refine G6_geti C (n := 4823) 23 dX6_next_27 fX6_next_96 iX6_next_6 rfl (hS _ (by decide)) rfl rfl ?_
          refine J_iconst C (1) dX6_next_30 ic_1 ?_
          refine J_iadd C dX6_next_31 ?_
          refine G6_puti C (n := 4823) 23 dX6_next_32 fX6_next_96 iX6_next_6 rfl (hS _ (by decide)) rfl (tyX6_ok 23 (by decide)) rfl rfl ?_
          refine J_goto C 0 dX6_next_35 (by decide) ?_
          refine J_gh (g' := upd g 4823 (nI (k + 1))) (h' := h) (by rw [upd2, ← nI_1]; rfl) rfl ?_
          refine ih (k + 1) (by omega) (by omega) (by omega) ?_
          rw [h4]
          refine runT_go hk ?_
          rw [nI_inj (by have := (x3 k hk).2; omega) (by decide) hc22]
          rfl
  have h9 := loop1 (n + 1) q (Nat.le_refl _) hqn (by omega) hs
  rw [upd_sf hq] at h9
  exact h9
