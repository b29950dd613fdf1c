/-! the words of a text: blanks, letters, figures, words, numbers, tokens -/
def isL (c : Nat) : Bool := decide (97 ≤ c) && decide (c ≤ 122)
def isD (c : Nat) : Bool := decide (48 ≤ c) && decide (c ≤ 57)
def bI (x : Bool) : Int32 := if x = true then 1 else 0
theorem bI_0 {x : Bool} : bI x = 0 ↔ x = false := by cases x <;> decide
theorem bI_n {x : Bool} : ¬ bI x = 0 ↔ x = true := by cases x <;> decide
theorem bI_narrow (x : Bool) : narrow .boolean (.int (bI x)) = .int (bI x) := by cases x <;> rfl
def runF (p : Nat → Bool) : Nat → Nat → Nat
  | 0, i => i
  | k + 1, i => if p i = true then runF p k (i + 1) else i
def runT (p : Nat → Bool) (n i : Nat) : Nat := runF p (n - i) i
theorem runT_go {p : Nat → Bool} {n i : Nat} (h : i < n) (hp : p i = true) : runT p n i = runT p n (i + 1) := by
  unfold runT
  rw [show n - i = (n - (i + 1)) + 1 by omega]
  simp [runF, hp]
theorem runT_end {p : Nat → Bool} {n i : Nat} (h : n ≤ i) : runT p n i = i := by
  unfold runT
  rw [show n - i = 0 by omega]
  rfl
theorem runT_no {p : Nat → Bool} {n i : Nat} (hp : p i = false) : runT p n i = i := by
  unfold runT
  cases n - i <;> simp [runF, hp]
theorem runF_ge {p : Nat → Bool} : ∀ {k i : Nat}, i ≤ runF p k i
  | 0, i => Nat.le_refl _
  | k + 1, i => by
    have := runF_ge (p := p) (k := k) (i := i + 1)
    simp only [runF]
    split <;> omega
theorem runF_le {p : Nat → Bool} : ∀ {k i : Nat}, runF p k i ≤ i + k
  | 0, i => Nat.le_refl _
  | k + 1, i => by
    have := runF_le (p := p) (k := k) (i := i + 1)
    simp only [runF]
    split <;> omega
theorem runT_ge {p : Nat → Bool} {n i : Nat} : i ≤ runT p n i := runF_ge
theorem runT_le {p : Nat → Bool} {n i : Nat} (h : i ≤ n) : runT p n i ≤ n := by
  have := runF_le (p := p) (k := n - i) (i := i)
  unfold runT
  omega
theorem runF_all {p : Nat → Bool} : ∀ {k i j : Nat}, i ≤ j → j < runF p k i → p j = true
  | 0, i, j, h, h' => by simp only [runF] at h'; omega
  | k + 1, i, j, h, h' => by
    simp only [runF] at h'
    split at h'
    · rename_i q
      by_cases e : i = j
      · rw [← e]; exact q
      · exact runF_all (by omega) h'
    · omega
theorem runT_all {p : Nat → Bool} {n i j : Nat} (h : i ≤ j) (h' : j < runT p n i) : p j = true := runF_all h h'
def nbT (n : Nat) (b : Nat → Nat) (i : Nat) : Nat := runT (fun j => b j == 32) n i
def smK (x y : Nat) : Bool := (isL x && isL y) || (isD x && isD y)
def eoT (n : Nat) (b : Nat → Nat) (i : Nat) : Nat := runT (fun j => smK (b i) (b j)) n (i + 1)
theorem eoT_lt {n i : Nat} {b : Nat → Nat} : i < eoT n b i := runT_ge
theorem eoT_le {n i : Nat} {b : Nat → Nat} (h : i < n) : eoT n b i ≤ n := runT_le h
theorem nbT_ge {n i : Nat} {b : Nat → Nat} : i ≤ nbT n b i := runT_ge
theorem nbT_le {n i : Nat} {b : Nat → Nat} (h : i ≤ n) : nbT n b i ≤ n := runT_le h
def spB (b : Nat → Nat) (s e : Nat) (l : List Nat) : Bool := decide (e - s = l.length) && (List.range l.length).all (fun j => b (s + j) == l.getD j 0)
def wdN (b : Nat → Nat) (s e : Nat) : Nat := if spB b s e (chS.getD 0 []) = true then 4 else if spB b s e (chS.getD 1 []) = true then 5 else if spB b s e (chS.getD 2 []) = true then 6 else if spB b s e (chS.getD 3 []) = true then 7 else if spB b s e (chS.getD 4 []) = true then 8 else if spB b s e (chS.getD 5 []) = true then 9 else 3
def tkN (b : Nat → Nat) (s e : Nat) : Nat := if isL (b s) = true then wdN b s e else if isD (b s) = true then 1 else if b s = 59 then 2 else 3
def nvO (b : Nat → Nat) (s e : Nat) : Option Nat := if e - s = 1 then some (b s - 48) else if e - s = 2 ∧ 48 < b s then some (10 * (b s - 48) + (b (e - 1) - 48)) else none
def tKn (n : Nat) (b : Nat → Nat) (p : Nat) : Nat := if p < n then tkN b p (eoT n b p) else 0
def tVo (n : Nat) (b : Nat → Nat) (p : Nat) : Option Nat := if tKn n b p = 1 then nvO b p (eoT n b p) else some 0
def tNx (n : Nat) (b : Nat → Nat) (p : Nat) : Nat := nbT n b (eoT n b p)
def psT (n : Nat) (b : Nat → Nat) : Nat → Nat
  | 0 => nbT n b 0
  | j + 1 => tNx n b (psT n b j)
theorem psT_ge {n : Nat} {b : Nat → Nat} : ∀ {j : Nat}, j ≤ psT n b j
  | 0 => Nat.zero_le _
  | j + 1 => by
    have h1 := psT_ge (n := n) (b := b) (j := j)
    have h2 := eoT_lt (n := n) (b := b) (i := psT n b j)
    have h3 := nbT_ge (n := n) (b := b) (i := eoT n b (psT n b j))
    show j + 1 ≤ nbT n b (eoT n b (psT n b j))
    omega
theorem tNx_gt {n p : Nat} {b : Nat → Nat} : p < tNx n b p := Nat.lt_of_lt_of_le eoT_lt nbT_ge
theorem tNx_le {n p : Nat} {b : Nat → Nat} (h : p < n) : tNx n b p ≤ n := nbT_le (eoT_le h)
theorem wdN_le {b : Nat → Nat} {s e : Nat} : wdN b s e ≤ 9 ∧ 3 ≤ wdN b s e := by
  unfold wdN
  repeat' split
  all_goals decide
theorem tkN_le {b : Nat → Nat} {s e : Nat} : tkN b s e ≤ 9 ∧ 1 ≤ tkN b s e := by
  have := wdN_le (b := b) (s := s) (e := e)
  unfold tkN
  repeat' split
  all_goals omega
theorem tKn_le {n : Nat} {b : Nat → Nat} {p : Nat} : tKn n b p ≤ 9 := by
  have := tkN_le (b := b) (s := p) (e := eoT n b p)
  unfold tKn
  split <;> omega
theorem tKn_0 {n : Nat} {b : Nat → Nat} {p : Nat} : tKn n b p = 0 ↔ n ≤ p := by
  have := tkN_le (b := b) (s := p) (e := eoT n b p)
  unfold tKn
  split <;> omega
theorem nvO_lt {b : Nat → Nat} {s e : Nat} {v : Nat} (hb : ∀ i, i < e → b i < 256) (hs : s < e) (h : nvO b s e = some v) : v < 3000 := by
  have h1 := hb s hs
  have h2 := hb (e - 1) (by omega)
  unfold nvO at h
  split at h
  · cases h; omega
  · split at h
    · cases h; omega
    · cases h
/-- the reader's text, over registers -/
def LxX (g : Nat → Int32) (T : Nat → Nat → Int32) (n : Nat) (b : Nat → Nat) : Prop := n ≤ 200 ∧ ¬ g 200 = 0 ∧ g 201 = nI n ∧ ∀ i, i < n → T 1 i = nI (b i) ∧ b i < 256
def TkX (T : Nat → Nat → Int32) (n : Nat) (b : Nat → Nat) (m : Nat) : Prop := m ≤ 200 ∧ psT n b m = n ∧ (∀ j, j < m → psT n b j < n) ∧ ∀ j, j ≤ m → T 4 j = nI (psT n b j) ∧ T 3 j = nI (tKn n b (psT n b j)) ∧ T 5 j = oI (tVo n b (psT n b j))
section
variable {E : EN} {Y : YN} {cc : ByteArray} {nL : Nat} {own : String} {Ts : List Cond} {R : Room} {cs ss : Nat} {g : Nat → Int32} {h : Nat → Int64} {T : Nat → Nat → Int32} {L : Nat → Nat → Int64} {pc : Nat} {lv : List (Option Value)} {st : List Value} {V : SV}
theorem G_ilen (C : Cx E Y cc nL own Ts R) {k n : Nat} (hd : decode cc pc = .ok (.arraylength, 1)) (hk : kd k = (1, n)) (hs : eS E k = true) (kk : J E Y (eN E) cs ss (wS E g h T L) (pc + 1) lv (.int (nI n) :: st)) : J E Y (eN E) cs ss (wS E g h T L) pc lv (.ref (eA E k) :: st) := by
  intro H locs ls hI hls
  exact va_alen C.1 C.2.1 C.2.2.2.2.2.2.1 hI.1 k 0 (x := (n, .inl (T k))) (by rw [wsF_get _ _ (C.lt hs), wS_int hk hs]) rfl rfl hd (kk H locs ls hI hls)
def GpIS (E : EN) (V : SV) (y : MethodName) (ws : List Cond) (rm : Room) (av : List Value) (g : Nat → Int32) (h : Nat → Int64) (T : Nat → Nat → Int32) (L : Nat → Nat → Int64) (post : Int32 → Prop) : Prop := CtIS E V (eN E) (eN E) y ws rm 0 0 av (wS E g h T L) (fun r w2 => w2 = wS E g h T L ∧ post r)
def GtIS (E : EN) (V : SV) (y : MethodName) (ws : List Cond) (rm : Room) (av : List Value) (g : Nat → Int32) (h : Nat → Int64) (T : Nat → Nat → Int32) (L : Nat → Nat → Int64) (post : Int32 → (Nat → Int32) → (Nat → Int64) → (Nat → Nat → Int32) → (Nat → Nat → Int64) → Prop) : Prop := CtIS E V (eN E) (eN E) y ws rm 0 0 av (wS E g h T L) (fun r w2 => ∃ g2 h2 T2 L2, w2 = wS E g2 h2 T2 L2 ∧ post r g2 h2 T2 L2)
def GtVS (E : EN) (V : SV) (y : MethodName) (ws : List Cond) (rm : Room) (av : List Value) (g : Nat → Int32) (h : Nat → Int64) (T : Nat → Nat → Int32) (L : Nat → Nat → Int64) (post : (Nat → Int32) → (Nat → Int64) → (Nat → Nat → Int32) → (Nat → Nat → Int64) → Prop) : Prop := CtVS E V (eN E) (eN E) y ws rm 0 0 av (wS E g h T L) (fun w2 => ∃ g2 h2 T2 L2, w2 = wS E g2 h2 T2 L2 ∧ post g2 h2 T2 L2)
theorem G_vpSi (C : Cx E Y cc nL own Ts R) (hSP : SP V (yA Y) (ys Y) (ys Y).heap) {Cn : String} {TT : u_T} {N0 ci k : Nat} {idx n maxL : Nat} {y : MethodName} {ws ws' : List Cond} {rm : Room} {bytes : ByteArray} {ret : Option FieldType} {As rest st0 : List Value} {post : Int32 → Prop} (hd : decode cc pc = .ok (.invokevirtual idx, 3)) (hM : GpIS E V y ws rm (.ref (eA E k) :: As) g h T L post) (hT : GoodIn Ts (wsV own idx Cn y ws)) (hw : ws = .code y bytes maxL ret :: ws') (hdm : y.cls = Cn ∧ y.cls ≠ "java/lang/invoke/MethodHandle" ∧ y.cls ≠ "java/lang/invoke/VarHandle" ∧ (parseMethodDescriptor y.desc).map (fun d => d.parameters.length) = some n) (hc : vwCl[ci]? = some (Cn, TT, N0)) (hk : kd k = (0, ci)) (hs : eS E k = true) (hn : As.length = n) (hst : st0 = As.reverse ++ .ref (eA E k) :: rest) (hW : (rest.map fun v => v.category).sum ≤ 8) (hrm : rmOK rm R maxL 0 0 cs ss) (kk : ∀ r : Int32, post r → J E Y (eN E) cs ss (wS E g h T L) (pc + 3) lv (.int r :: rest)) : J E Y (eN E) cs ss (wS E g h T L) pc lv st0 := J_cvSi C hSP hd hM hT hw hdm (Rcv.obj C hc (C.lt hs) (wS_obj hk hs)) (Nat.le_refl _) hn hst hW hrm (fun r w2 hp => by obtain ⟨rfl, hp⟩ := hp; exact kk r hp)
theorem G_vtSi (C : Cx E Y cc nL own Ts R) (hSP : SP V (yA Y) (ys Y) (ys Y).heap) {Cn : String} {TT : u_T} {N0 ci k : Nat} {idx n maxL : Nat} {y : MethodName} {ws ws' : List Cond} {rm : Room} {bytes : ByteArray} {ret : Option FieldType} {As rest st0 : List Value} {post : Int32 → (Nat → Int32) → (Nat → Int64) → (Nat → Nat → Int32) → (Nat → Nat → Int64) → Prop} (hd : decode cc pc = .ok (.invokevirtual idx, 3)) (hM : GtIS E V y ws rm (.ref (eA E k) :: As) g h T L post) (hT : GoodIn Ts (wsV own idx Cn y ws)) (hw : ws = .code y bytes maxL ret :: ws') (hdm : y.cls = Cn ∧ y.cls ≠ "java/lang/invoke/MethodHandle" ∧ y.cls ≠ "java/lang/invoke/VarHandle" ∧ (parseMethodDescriptor y.desc).map (fun d => d.parameters.length) = some n) (hc : vwCl[ci]? = some (Cn, TT, N0)) (hk : kd k = (0, ci)) (hs : eS E k = true) (hn : As.length = n) (hst : st0 = As.reverse ++ .ref (eA E k) :: rest) (hW : (rest.map fun v => v.category).sum ≤ 8) (hrm : rmOK rm R maxL 0 0 cs ss) (kk : ∀ (r : Int32) g2 h2 T2 L2, post r g2 h2 T2 L2 → J E Y (eN E) cs ss (wS E g2 h2 T2 L2) (pc + 3) lv (.int r :: rest)) : J E Y (eN E) cs ss (wS E g h T L) pc lv st0 := J_cvSi C hSP hd hM hT hw hdm (Rcv.obj C hc (C.lt hs) (wS_obj hk hs)) (Nat.le_refl _) hn hst hW hrm (fun r w2 hp => by obtain ⟨g2, h2, T2, L2, rfl, hp⟩ := hp; exact kk r g2 h2 T2 L2 hp)
theorem G_vtSv (C : Cx E Y cc nL own Ts R) (hSP : SP V (yA Y) (ys Y) (ys Y).heap) {Cn : String} {TT : u_T} {N0 ci k : Nat} {idx n maxL : Nat} {y : MethodName} {ws ws' : List Cond} {rm : Room} {bytes : ByteArray} {ret : Option FieldType} {As rest st0 : List Value} {post : (Nat → Int32) → (Nat → Int64) → (Nat → Nat → Int32) → (Nat → Nat → Int64) → Prop} (hd : decode cc pc = .ok (.invokevirtual idx, 3)) (hM : GtVS E V y ws rm (.ref (eA E k) :: As) g h T L post) (hT : GoodIn Ts (wsV own idx Cn y ws)) (hw : ws = .code y bytes maxL ret :: ws') (hdm : y.cls = Cn ∧ y.cls ≠ "java/lang/invoke/MethodHandle" ∧ y.cls ≠ "java/lang/invoke/VarHandle" ∧ (parseMethodDescriptor y.desc).map (fun d => d.parameters.length) = some n) (hc : vwCl[ci]? = some (Cn, TT, N0)) (hk : kd k = (0, ci)) (hs : eS E k = true) (hn : As.length = n) (hst : st0 = As.reverse ++ .ref (eA E k) :: rest) (hW : (rest.map fun v => v.category).sum ≤ 8) (hrm : rmOK rm R maxL 0 0 cs ss) (kk : ∀  g2 h2 T2 L2, post g2 h2 T2 L2 → J E Y (eN E) cs ss (wS E g2 h2 T2 L2) (pc + 3) lv (rest)) : J E Y (eN E) cs ss (wS E g h T L) pc lv st0 := J_cvSv C hSP hd hM hT hw hdm (Rcv.obj C hc (C.lt hs) (wS_obj hk hs)) (Nat.le_refl _) hn hst hW hrm (fun w2 hp => by obtain ⟨g2, h2, T2, L2, rfl, hp⟩ := hp; exact kk g2 h2 T2 L2 hp)
end
abbrev rmX2_byteAt : Room := { frames := 0, cells := 0, slots := 0, locals := 0 }
theorem fX2_byteAt_21 : Cond.fieldLink RX2 21 RX2 (TX2 0).2.1 (TX2 0).2.2.1 ∈ wsX2_byteAt := by decide +kernel
theorem fX2_byteAt_30 : Cond.fieldLink RX2 30 RX2 (TX2 1).2.1 (TX2 1).2.2.1 ∈ wsX2_byteAt := by decide +kernel
theorem iX2_byteAt_2 : ∀ x ∈ wsX20, x ∈ wsX2_byteAt := by decide +kernel
set_option maxRecDepth 100000 in
set_option maxHeartbeats 4000000 in
theorem c_X2_byteAt (E : EN) (hM : EM E) (g : Nat → Int32) (h : Nat → Int64) (T : Nat → Nat → Int32) (L : Nat → Nat → Int64) (n : Nat) (b : Nat → Nat) (hX : LxX g T n b) (i : Nat) (hi : i < n) : GpI E yX2_byteAt wsX2_byteAt rmX2_byteAt [.ref (eA E 2), .int (nI i)] g h T L (fun r => r = nI (b i)) := by
  refine CtI_of (cc := cX2_byteAt) (nL := 2) RX2 [some (.ref (eA E 2)), some (.int (nI i))] ⟨rfl, rfl⟩ (by decide) rfl rfl (Nat.le_of_ble_eq_true rfl) ⟨0, rfl⟩ hM.2 (fun Y C hQ => ?_)
  have hM0 := hM
  obtain ⟨hS, hNN⟩ := hM
  obtain ⟨x1, x2, x3, x4⟩ := hX
  refine J_aload_0 C dX2_byteAt_0 ?_
  refine G2_getn C (n := 0) 0 dX2_byteAt_1 fX2_byteAt_21 iX2_byteAt_2 rfl (hS _ (by decide)) rfl x2 ?_
  refine J_ifnull C dX2_byteAt_4 ?_
  refine J_iload_1 C dX2_byteAt_7 ?_
  refine J_if_lt C 37 dX2_byteAt_8 (by decide) (fun hc => absurd hc (nI_pos (by omega))) (fun hc8 => ?_)
  refine J_iload_1 C dX2_byteAt_11 ?_
  refine J_aload_0 C dX2_byteAt_12 ?_
  refine G2_geti C (n := 201) 1 dX2_byteAt_13 fX2_byteAt_30 iX2_byteAt_2 rfl (hS _ (by decide)) rfl rfl ?_
  refine J_icmp_ge C 37 dX2_byteAt_16 (by decide) (fun hc => absurd hc (show ¬ g 201 ≤ nI i by rw [x3]; exact nI_ge hi (by omega))) (fun hc16 => ?_)
  refine J_iload_1 C dX2_byteAt_19 ?_
  refine J_aload_0 C dX2_byteAt_20 ?_
  refine G2_getn C (n := 0) 0 dX2_byteAt_21 fX2_byteAt_21 iX2_byteAt_2 rfl (hS _ (by decide)) rfl x2 ?_
  refine G_ilen C dX2_byteAt_24 rfl (hS _ (by decide)) ?_
  refine J_icmp_ge C 37 dX2_byteAt_25 (by decide) (fun hc => absurd hc (nI_ge (show i < 200 by omega) (by decide))) (fun hc25 => ?_)
  refine J_aload_0 C dX2_byteAt_28 ?_
  refine G2_getn C (n := 0) 0 dX2_byteAt_29 fX2_byteAt_21 iX2_byteAt_2 rfl (hS _ (by decide)) rfl x2 ?_
  refine J_iload_1 C dX2_byteAt_32 ?_
  refine G_iald C i dX2_byteAt_33 rfl (hS _ (by decide)) rfl (by omega) ?_
  refine J_goto C 38 dX2_byteAt_34 (by decide) ?_
  refine hQ _ _ _ _ dX2_byteAt_38 ⟨rfl, ?_⟩
  exact (x4 i hi).1
abbrev rmX2_isLetter : Room := { frames := 0, cells := 0, slots := 0, locals := 0 }
theorem bc_97 : (Int8.ofInt (97)).toInt32 = (97) := by decide
theorem bc_122 : (Int8.ofInt (122)).toInt32 = (122) := by decide
set_option maxRecDepth 100000 in
set_option maxHeartbeats 4000000 in
theorem c_X2_isLetter (E : EN) (hM : EM E) (g : Nat → Int32) (h : Nat → Int64) (T : Nat → Nat → Int32) (L : Nat → Nat → Int64) (c : Nat) (hc : c < 256) : GpI E yX2_isLetter wsX2_isLetter rmX2_isLetter [.int (nI c)] g h T L (fun r => r = bI (isL c)) := by
  refine CtZ_of (cc := cX2_isLetter) (nL := 1) RX2 [some (.int (nI c))] ⟨rfl, rfl⟩ (by decide) rfl rfl (Nat.le_of_ble_eq_true rfl) ⟨0, rfl⟩ hM.2 (fun Y C hQ => ?_)
  refine J_iload_0 C dX2_isLetter_0 ?_
  refine J_bipush C (97) dX2_isLetter_1 bc_97 ?_
  refine J_icmp_lt C 16 dX2_isLetter_3 (by decide) (fun hc3 => ?_) (fun hc3 => ?_)
  · skip
    refine J_iconst C (0) dX2_isLetter_16 ic_0 ?_
    refine hQ _ _ _ _ dX2_isLetter_17 rfl ⟨rfl, ?_⟩
    first
    | (have h1 : c < 97 := by
         rw [show (97 : Int32) = nI 97 by decide, nI_ltI (by omega) (by decide)] at hc3
         exact hc3
       have e : isL c = false := by simp [isL]; omega
       rw [e]; rfl)
    | (have h1 : 122 < c := by
         rw [show (122 : Int32) = nI 122 by decide, nI_ltI (by decide) (by omega)] at hc9
         exact hc9
       have e : isL c = false := by simp [isL]; omega
       rw [e]; rfl)
    | (rw [show (97 : Int32) = nI 97 by decide, nI_ltI (by omega) (by decide)] at hc3
       rw [show (122 : Int32) = nI 122 by decide, nI_ltI (by decide) (by omega)] at hc9
       have e : isL c = true := by simp [isL]; omega
       rw [e]; rfl)
  · skip
    refine J_iload_0 C dX2_isLetter_6 ?_
    refine J_bipush C (122) dX2_isLetter_7 bc_122 ?_
    refine J_icmp_gt C 16 dX2_isLetter_9 (by decide) (fun hc9 => ?_) (fun hc9 => ?_)
    · skip
      refine J_iconst C (0) dX2_isLetter_16 ic_0 ?_
      refine hQ _ _ _ _ dX2_isLetter_17 rfl ⟨rfl, ?_⟩
      first
      | (have h1 : c < 97 := by
           rw [show (97 : Int32) = nI 97 by decide, nI_ltI (by omega) (by decide)] at hc3
           exact hc3
         have e : isL c = false := by simp [isL]; omega
         rw [e]; rfl)
      | (have h1 : 122 < c := by
           rw [show (122 : Int32) = nI 122 by decide, nI_ltI (by decide) (by omega)] at hc9
           exact hc9
         have e : isL c = false := by simp [isL]; omega
         rw [e]; rfl)
      | (rw [show (97 : Int32) = nI 97 by decide, nI_ltI (by omega) (by decide)] at hc3
         rw [show (122 : Int32) = nI 122 by decide, nI_ltI (by decide) (by omega)] at hc9
         have e : isL c = true := by simp [isL]; omega
         rw [e]; rfl)
    · skip
      refine J_iconst C (1) dX2_isLetter_12 ic_1 ?_
      refine J_goto C 17 dX2_isLetter_13 (by decide) ?_
      refine hQ _ _ _ _ dX2_isLetter_17 rfl ⟨rfl, ?_⟩
      first
      | (have h1 : c < 97 := by
           rw [show (97 : Int32) = nI 97 by decide, nI_ltI (by omega) (by decide)] at hc3
           exact hc3
         have e : isL c = false := by simp [isL]; omega
         rw [e]; rfl)
      | (have h1 : 122 < c := by
           rw [show (122 : Int32) = nI 122 by decide, nI_ltI (by decide) (by omega)] at hc9
           exact hc9
         have e : isL c = false := by simp [isL]; omega
         rw [e]; rfl)
      | (rw [show (97 : Int32) = nI 97 by decide, nI_ltI (by omega) (by decide)] at hc3
         rw [show (122 : Int32) = nI 122 by decide, nI_ltI (by decide) (by omega)] at hc9
         have e : isL c = true := by simp [isL]; omega
         rw [e]; rfl)
abbrev rmX2_isDigit : Room := { frames := 0, cells := 0, slots := 0, locals := 0 }
theorem bc_48 : (Int8.ofInt (48)).toInt32 = (48) := by decide
theorem bc_57 : (Int8.ofInt (57)).toInt32 = (57) := by decide
set_option maxRecDepth 100000 in
set_option maxHeartbeats 4000000 in
theorem c_X2_isDigit (E : EN) (hM : EM E) (g : Nat → Int32) (h : Nat → Int64) (T : Nat → Nat → Int32) (L : Nat → Nat → Int64) (c : Nat) (hc : c < 256) : GpI E yX2_isDigit wsX2_isDigit rmX2_isDigit [.int (nI c)] g h T L (fun r => r = bI (isD c)) := by
  refine CtZ_of (cc := cX2_isDigit) (nL := 1) RX2 [some (.int (nI c))] ⟨rfl, rfl⟩ (by decide) rfl rfl (Nat.le_of_ble_eq_true rfl) ⟨0, rfl⟩ hM.2 (fun Y C hQ => ?_)
  refine J_iload_0 C dX2_isDigit_0 ?_
  refine J_bipush C (48) dX2_isDigit_1 bc_48 ?_
  refine J_icmp_lt C 16 dX2_isDigit_3 (by decide) (fun hc3 => ?_) (fun hc3 => ?_)
  · skip
    refine J_iconst C (0) dX2_isDigit_16 ic_0 ?_
    refine hQ _ _ _ _ dX2_isDigit_17 rfl ⟨rfl, ?_⟩
    first
    | (have h1 : c < 48 := by
         rw [show (48 : Int32) = nI 48 by decide, nI_ltI (by omega) (by decide)] at hc3
         exact hc3
       have e : isD c = false := by simp [isD]; omega
       rw [e]; rfl)
    | (have h1 : 57 < c := by
         rw [show (57 : Int32) = nI 57 by decide, nI_ltI (by decide) (by omega)] at hc9
         exact hc9
       have e : isD c = false := by simp [isD]; omega
       rw [e]; rfl)
    | (rw [show (48 : Int32) = nI 48 by decide, nI_ltI (by omega) (by decide)] at hc3
       rw [show (57 : Int32) = nI 57 by decide, nI_ltI (by decide) (by omega)] at hc9
       have e : isD c = true := by simp [isD]; omega
       rw [e]; rfl)
  · skip
    refine J_iload_0 C dX2_isDigit_6 ?_
    refine J_bipush C (57) dX2_isDigit_7 bc_57 ?_
    refine J_icmp_gt C 16 dX2_isDigit_9 (by decide) (fun hc9 => ?_) (fun hc9 => ?_)
    · skip
      refine J_iconst C (0) dX2_isDigit_16 ic_0 ?_
      refine hQ _ _ _ _ dX2_isDigit_17 rfl ⟨rfl, ?_⟩
      first
      | (have h1 : c < 48 := by
           rw [show (48 : Int32) = nI 48 by decide, nI_ltI (by omega) (by decide)] at hc3
           exact hc3
         have e : isD c = false := by simp [isD]; omega
         rw [e]; rfl)
      | (have h1 : 57 < c := by
           rw [show (57 : Int32) = nI 57 by decide, nI_ltI (by decide) (by omega)] at hc9
           exact hc9
         have e : isD c = false := by simp [isD]; omega
         rw [e]; rfl)
      | (rw [show (48 : Int32) = nI 48 by decide, nI_ltI (by omega) (by decide)] at hc3
         rw [show (57 : Int32) = nI 57 by decide, nI_ltI (by decide) (by omega)] at hc9
         have e : isD c = true := by simp [isD]; omega
         rw [e]; rfl)
    · skip
      refine J_iconst C (1) dX2_isDigit_12 ic_1 ?_
      refine J_goto C 17 dX2_isDigit_13 (by decide) ?_
      refine hQ _ _ _ _ dX2_isDigit_17 rfl ⟨rfl, ?_⟩
      first
      | (have h1 : c < 48 := by
           rw [show (48 : Int32) = nI 48 by decide, nI_ltI (by omega) (by decide)] at hc3
           exact hc3
         have e : isD c = false := by simp [isD]; omega
         rw [e]; rfl)
      | (have h1 : 57 < c := by
           rw [show (57 : Int32) = nI 57 by decide, nI_ltI (by decide) (by omega)] at hc9
           exact hc9
         have e : isD c = false := by simp [isD]; omega
         rw [e]; rfl)
      | (rw [show (48 : Int32) = nI 48 by decide, nI_ltI (by omega) (by decide)] at hc3
         rw [show (57 : Int32) = nI 57 by decide, nI_ltI (by decide) (by omega)] at hc9
         have e : isD c = true := by simp [isD]; omega
         rw [e]; rfl)
abbrev rmX2_behindBlanks : Room := { frames := 1, cells := 0, slots := 0, locals := 21 }
theorem fX2_behindBlanks_30 : Cond.fieldLink RX2 30 RX2 (TX2 1).2.1 (TX2 1).2.2.1 ∈ wsX2_behindBlanks := by decide +kernel
theorem iX2_behindBlanks_2 : ∀ x ∈ wsX20, x ∈ wsX2_behindBlanks := by decide +kernel
theorem dm_X2_byteAt : yX2_byteAt.cls = RX2 ∧ yX2_byteAt.cls ≠ "java/lang/invoke/MethodHandle" ∧ yX2_byteAt.cls ≠ "java/lang/invoke/VarHandle" ∧ (parseMethodDescriptor yX2_byteAt.desc).map (fun d => d.parameters.length) = some 1 := by decide +kernel
theorem bc_32 : (Int8.ofInt (32)).toInt32 = (32) := by decide
set_option maxRecDepth 100000 in
set_option maxHeartbeats 4000000 in
theorem c_X2_behindBlanks (E : EN) (hM : EM E) (g : Nat → Int32) (h : Nat → Int64) (T : Nat → Nat → Int32) (L : Nat → Nat → Int64) (n : Nat) (b : Nat → Nat) (hX : LxX g T n b) (s : Nat) (hs : s ≤ n) : GpI E yX2_behindBlanks wsX2_behindBlanks rmX2_behindBlanks [.ref (eA E 2), .int (nI s)] g h T L (fun r => r = nI (nbT n b s)) := by
  refine CtI_of (cc := cX2_behindBlanks) (nL := 3) RX2 [some (.ref (eA E 2)), some (.int (nI s)), none] ⟨rfl, rfl⟩ (by decide) rfl rfl (Nat.le_of_ble_eq_true rfl) ⟨1, rfl⟩ hM.2 (fun Y C hQ => ?_)
  have hX0 := hX
  have hM0 := hM
  obtain ⟨hS, hNN⟩ := hM
  obtain ⟨x1, x2, x3, x4⟩ := hX
  refine J_iload_1 C dX2_behindBlanks_0 ?_
  refine J_istore_2 C dX2_behindBlanks_1 (by decide) trivial ?_
  have loop : ∀ (n2 : Nat) (k : Nat), k ≤ n → n < n2 + k → runT (fun j => b j == 32) n s = runT (fun j => b j == 32) n k → J E Y (eN E) 0 0 (wS E g h T L) 2 [some (.ref (eA E 2)), some (.int (nI s)), some (.int (nI k))] [] := by
    intro n2
    induction n2 with
    | zero =>
      intro k h1 h2 h3
      omega
    | succ n2 ih =>
      intro k h1 h2 h3
      refine J_iload_2 C dX2_behindBlanks_2 ?_
      refine J_aload_0 C dX2_behindBlanks_3 ?_
      refine G2_geti C (n := 201) 1 dX2_behindBlanks_4 fX2_behindBlanks_30 iX2_behindBlanks_2 rfl (hS _ (by decide)) rfl rfl ?_
      refine J_icmp_ge C 26 dX2_behindBlanks_7 (by decide) (fun hc7 => ?_) (fun hc7 => ?_)
      · skip
        refine J_iload_2 C dX2_behindBlanks_26 ?_
        refine hQ _ _ _ _ dX2_behindBlanks_27 ⟨rfl, ?_⟩
        first
        | (have hk : n ≤ k := ge_nI (by omega) (by rw [← x3]; exact hc7)
           unfold nbT
           rw [h3, runT_end hk])
        | (unfold nbT
           rw [h3, runT_no (by
             simp
             intro q
             exact hc17 (by rw [q]; rfl))])
      · skip
        have hk : k < n := lt_nI (by omega) (by rw [← x3]; exact hc7)
        refine J_aload_0 C dX2_behindBlanks_10 ?_
        refine J_iload_2 C dX2_behindBlanks_11 ?_
        refine G_vpi C dX2_behindBlanks_12 (c_X2_byteAt E hM0 g h T L n b hX0 k hk) gX2_behindBlanks_X2_byteAt rfl dm_X2_byteAt rfl rfl (hS _ (by decide)) rfl rfl (Nat.le_of_ble_eq_true rfl) (rmOK_b rfl) (fun r12 hr12 => ?_)
        subst hr12
        refine J_bipush C (32) dX2_behindBlanks_15 bc_32 ?_
        refine J_icmp_ne C 26 dX2_behindBlanks_17 (by decide) (fun hc17 => ?_) (fun hc17 => ?_)
        · skip
          refine J_iload_2 C dX2_behindBlanks_26 ?_
          refine hQ _ _ _ _ dX2_behindBlanks_27 ⟨rfl, ?_⟩
          first
          | (have hk : n ≤ k := ge_nI (by omega) (by rw [← x3]; exact hc7)
             unfold nbT
             rw [h3, runT_end hk])
          | (unfold nbT
             rw [h3, runT_no (by
               simp
               intro q
               exact hc17 (by rw [q]; rfl))])
        · skip
          refine J_iinc_2 C (1) dX2_behindBlanks_20 (by decide) trivial ic_1 ?_
          refine J_goto C 2 dX2_behindBlanks_23 (by decide) ?_
          rw [nI_1]
          refine ih (k + 1) (by omega) (by omega) ?_
          rw [h3]
          refine runT_go hk ?_
          have h9 := (x4 k hk).2
          have e : b k = 32 := nI_inj (by omega) (by decide) hc17
          simp [e]
  exact loop (n + 1) s hs (by omega) rfl
abbrev rmX2_endOf : Room := { frames := 1, cells := 0, slots := 0, locals := 21 }
theorem fX2_endOf_30 : Cond.fieldLink RX2 30 RX2 (TX2 1).2.1 (TX2 1).2.2.1 ∈ wsX2_endOf := by decide +kernel
theorem iX2_endOf_2 : ∀ x ∈ wsX20, x ∈ wsX2_endOf := by decide +kernel
theorem dm_X2_isDigit : yX2_isDigit.cls ≠ "java/lang/invoke/MethodHandle" ∧ yX2_isDigit.cls ≠ "java/lang/invoke/VarHandle" ∧ (parseMethodDescriptor yX2_isDigit.desc).map (fun d => d.parameters.length) = some 1 := by decide +kernel
theorem dm_X2_isLetter : yX2_isLetter.cls ≠ "java/lang/invoke/MethodHandle" ∧ yX2_isLetter.cls ≠ "java/lang/invoke/VarHandle" ∧ (parseMethodDescriptor yX2_isLetter.desc).map (fun d => d.parameters.length) = some 1 := by decide +kernel
set_option maxRecDepth 100000 in
set_option maxHeartbeats 4000000 in
theorem c_X2_endOf (E : EN) (hM : EM E) (g : Nat → Int32) (h : Nat → Int64) (T : Nat → Nat → Int32) (L : Nat → Nat → Int64) (n : Nat) (b : Nat → Nat) (hX : LxX g T n b) (s : Nat) (hs : s < n) : GpI E yX2_endOf wsX2_endOf rmX2_endOf [.ref (eA E 2), .int (nI s)] g h T L (fun r => r = nI (eoT n b s)) := by
  refine CtI_of (cc := cX2_endOf) (nL := 5) RX2 [some (.ref (eA E 2)), some (.int (nI s)), none, none, none] ⟨rfl, rfl⟩ (by decide) rfl rfl (Nat.le_of_ble_eq_true rfl) ⟨3, rfl⟩ hM.2 (fun Y C hQ => ?_)
  have hX0 := hX
  have hM0 := hM
  obtain ⟨hS, hNN⟩ := hM
  obtain ⟨x1, x2, x3, x4⟩ := hX
  have hb : b s < 256 := (x4 s hs).2
  refine J_aload_0 C dX2_endOf_0 ?_
  refine J_iload_1 C dX2_endOf_1 ?_
  refine G_vpi C dX2_endOf_2 (c_X2_byteAt E hM0 g h T L n b hX0 s hs) gX2_endOf_X2_byteAt rfl dm_X2_byteAt rfl rfl (hS _ (by decide)) rfl rfl (Nat.le_of_ble_eq_true rfl) (rmOK_b rfl) (fun r2 hr2 => ?_)
  subst hr2
  refine G_spi C dX2_endOf_5 (c_X2_isLetter E hM0 g h T L (b s) hb) gX2_endOf_X2_isLetter rfl dm_X2_isLetter rfl rfl (Nat.le_of_ble_eq_true rfl) (rmOK_b rfl) (fun r5 hr5 => ?_)
  subst hr5
  refine J_istore_2 C dX2_endOf_8 (by decide) trivial ?_
  refine J_aload_0 C dX2_endOf_9 ?_
  refine J_iload_1 C dX2_endOf_10 ?_
  refine G_vpi C dX2_endOf_11 (c_X2_byteAt E hM0 g h T L n b hX0 s hs) gX2_endOf_X2_byteAt rfl dm_X2_byteAt rfl rfl (hS _ (by decide)) rfl rfl (Nat.le_of_ble_eq_true rfl) (rmOK_b rfl) (fun r11 hr11 => ?_)
  subst hr11
  refine G_spi C dX2_endOf_14 (c_X2_isDigit E hM0 g h T L (b s) hb) gX2_endOf_X2_isDigit rfl dm_X2_isDigit rfl rfl (Nat.le_of_ble_eq_true rfl) (rmOK_b rfl) (fun r14 hr14 => ?_)
  subst hr14
  refine J_istore_3 C dX2_endOf_17 (by decide) trivial ?_
  refine J_iload_1 C dX2_endOf_18 ?_
  refine J_iconst C (1) dX2_endOf_19 ic_1 ?_
  refine J_iadd C dX2_endOf_20 ?_
  rw [nI_1]
  refine J_istore_4 C dX2_endOf_21 (by decide) trivial ?_
  have loop : ∀ (n2 : Nat) (e : Nat), s + 1 ≤ e → e ≤ n → n < n2 + e → eoT n b s = runT (fun j => smK (b s) (b j)) n e → J E Y (eN E) 0 0 (wS E g h T L) 23 [some (.ref (eA E 2)), some (.int (nI s)), some (.int (bI (isL (b s)))), some (.int (bI (isD (b s)))), some (.int (nI e))] [] := by
    intro n2
    induction n2 with
    | zero =>
      intro e h1 h2 h4 h3
      omega
    | succ n2 ih =>
      intro e h1 h2 h4 h3
      refine J_iload_4 C dX2_endOf_23 ?_
      refine J_aload_0 C dX2_endOf_25 ?_
      refine G2_geti C (n := 201) 1 dX2_endOf_26 fX2_endOf_30 iX2_endOf_2 rfl (hS _ (by decide)) rfl rfl ?_
      refine J_icmp_ge C 70 dX2_endOf_29 (by decide) (fun hc29 => ?_) (fun hc29 => ?_)
      · skip
        refine J_iload_4 C dX2_endOf_70 ?_
        refine hQ _ _ _ _ dX2_endOf_72 ⟨rfl, ?_⟩
        first
        | (have hk : n ≤ e := ge_nI (by omega) (by rw [← x3]; exact hc29)
           rw [h3, runT_end hk])
        | (rw [h3, runT_no (by
             simp only [smK]
             first
             | rw [bI_0.mp hc33, bI_0.mp hc49]; rfl
             | rw [bI_0.mp hc33, bI_0.mp hc61]; simp
             | rw [bI_0.mp hc45, bI_0.mp hc49]; simp
             | rw [bI_0.mp hc45, bI_0.mp hc61]; simp)])
      · skip
        have hk : e < n := lt_nI (by omega) (by rw [← x3]; exact hc29)
        have hbe : b e < 256 := (x4 e hk).2
        refine J_iload_2 C dX2_endOf_32 ?_
        refine J_if_eq C 48 dX2_endOf_33 (by decide) (fun hc33 => ?_) (fun hc33 => ?_)
        · skip
          refine J_iload_3 C dX2_endOf_48 ?_
          refine J_if_eq C 70 dX2_endOf_49 (by decide) (fun hc49 => ?_) (fun hc49 => ?_)
          · skip
            refine J_iload_4 C dX2_endOf_70 ?_
            refine hQ _ _ _ _ dX2_endOf_72 ⟨rfl, ?_⟩
            first
            | (have hk : n ≤ e := ge_nI (by omega) (by rw [← x3]; exact hc29)
               rw [h3, runT_end hk])
            | (rw [h3, runT_no (by
                 simp only [smK]
                 first
                 | rw [bI_0.mp hc33, bI_0.mp hc49]; rfl
                 | rw [bI_0.mp hc33, bI_0.mp hc61]; simp
                 | rw [bI_0.mp hc45, bI_0.mp hc49]; simp
                 | rw [bI_0.mp hc45, bI_0.mp hc61]; simp)])
          · skip
            refine J_aload_0 C dX2_endOf_52 ?_
            refine J_iload_4 C dX2_endOf_53 ?_
            refine G_vpi C dX2_endOf_55 (c_X2_byteAt E hM0 g h T L n b hX0 e hk) gX2_endOf_X2_byteAt rfl dm_X2_byteAt rfl rfl (hS _ (by decide)) rfl rfl (Nat.le_of_ble_eq_true rfl) (rmOK_b rfl) (fun r55 hr55 => ?_)
            subst hr55
            refine G_spi C dX2_endOf_58 (c_X2_isDigit E hM0 g h T L (b e) hbe) gX2_endOf_X2_isDigit rfl dm_X2_isDigit rfl rfl (Nat.le_of_ble_eq_true rfl) (rmOK_b rfl) (fun r58 hr58 => ?_)
            subst hr58
            refine J_if_eq C 70 dX2_endOf_61 (by decide) (fun hc61 => ?_) (fun hc61 => ?_)
            · skip
              refine J_iload_4 C dX2_endOf_70 ?_
              refine hQ _ _ _ _ dX2_endOf_72 ⟨rfl, ?_⟩
              first
              | (have hk : n ≤ e := ge_nI (by omega) (by rw [← x3]; exact hc29)
                 rw [h3, runT_end hk])
              | (rw [h3, runT_no (by
                   simp only [smK]
                   first
                   | rw [bI_0.mp hc33, bI_0.mp hc49]; rfl
                   | rw [bI_0.mp hc33, bI_0.mp hc61]; simp
                   | rw [bI_0.mp hc45, bI_0.mp hc49]; simp
                   | rw [bI_0.mp hc45, bI_0.mp hc61]; simp)])
            · skip
              refine J_iinc_4 C (1) dX2_endOf_64 (by decide) trivial ic_1 ?_
              refine J_goto C 23 dX2_endOf_67 (by decide) ?_
              rw [nI_1]
              refine ih (e + 1) (by omega) (by omega) (by omega) ?_
              rw [h3]
              refine runT_go hk ?_
              simp only [smK, Bool.or_eq_true, Bool.and_eq_true]
              first
              | exact Or.inl ⟨bI_n.mp hc33, bI_n.mp hc45⟩
              | exact Or.inr ⟨bI_n.mp hc49, bI_n.mp hc61⟩
        · skip
          refine J_aload_0 C dX2_endOf_36 ?_
          refine J_iload_4 C dX2_endOf_37 ?_
          refine G_vpi C dX2_endOf_39 (c_X2_byteAt E hM0 g h T L n b hX0 e hk) gX2_endOf_X2_byteAt rfl dm_X2_byteAt rfl rfl (hS _ (by decide)) rfl rfl (Nat.le_of_ble_eq_true rfl) (rmOK_b rfl) (fun r39 hr39 => ?_)
          subst hr39
          refine G_spi C dX2_endOf_42 (c_X2_isLetter E hM0 g h T L (b e) hbe) gX2_endOf_X2_isLetter rfl dm_X2_isLetter rfl rfl (Nat.le_of_ble_eq_true rfl) (rmOK_b rfl) (fun r42 hr42 => ?_)
          subst hr42
          refine J_if_ne C 64 dX2_endOf_45 (by decide) (fun hc45 => ?_) (fun hc45 => ?_)
          · skip
            refine J_iinc_4 C (1) dX2_endOf_64 (by decide) trivial ic_1 ?_
            refine J_goto C 23 dX2_endOf_67 (by decide) ?_
            rw [nI_1]
            refine ih (e + 1) (by omega) (by omega) (by omega) ?_
            rw [h3]
            refine runT_go hk ?_
            simp only [smK, Bool.or_eq_true, Bool.and_eq_true]
            first
            | exact Or.inl ⟨bI_n.mp hc33, bI_n.mp hc45⟩
            | exact Or.inr ⟨bI_n.mp hc49, bI_n.mp hc61⟩
          · skip
            refine J_iload_3 C dX2_endOf_48 ?_
            refine J_if_eq C 70 dX2_endOf_49 (by decide) (fun hc49 => ?_) (fun hc49 => ?_)
            · skip
              refine J_iload_4 C dX2_endOf_70 ?_
              refine hQ _ _ _ _ dX2_endOf_72 ⟨rfl, ?_⟩
              first
              | (have hk : n ≤ e := ge_nI (by omega) (by rw [← x3]; exact hc29)
                 rw [h3, runT_end hk])
              | (rw [h3, runT_no (by
                   simp only [smK]
                   first
                   | rw [bI_0.mp hc33, bI_0.mp hc49]; rfl
                   | rw [bI_0.mp hc33, bI_0.mp hc61]; simp
                   | rw [bI_0.mp hc45, bI_0.mp hc49]; simp
                   | rw [bI_0.mp hc45, bI_0.mp hc61]; simp)])
            · skip
              refine J_aload_0 C dX2_endOf_52 ?_
              refine J_iload_4 C dX2_endOf_53 ?_
              refine G_vpi C dX2_endOf_55 (c_X2_byteAt E hM0 g h T L n b hX0 e hk) gX2_endOf_X2_byteAt rfl dm_X2_byteAt rfl rfl (hS _ (by decide)) rfl rfl (Nat.le_of_ble_eq_true rfl) (rmOK_b rfl) (fun r55 hr55 => ?_)
              subst hr55
              refine G_spi C dX2_endOf_58 (c_X2_isDigit E hM0 g h T L (b e) hbe) gX2_endOf_X2_isDigit rfl dm_X2_isDigit rfl rfl (Nat.le_of_ble_eq_true rfl) (rmOK_b rfl) (fun r58 hr58 => ?_)
              subst hr58
              refine J_if_eq C 70 dX2_endOf_61 (by decide) (fun hc61 => ?_) (fun hc61 => ?_)
              · skip
                refine J_iload_4 C dX2_endOf_70 ?_
                refine hQ _ _ _ _ dX2_endOf_72 ⟨rfl, ?_⟩
                first
                | (have hk : n ≤ e := ge_nI (by omega) (by rw [← x3]; exact hc29)
                   rw [h3, runT_end hk])
                | (rw [h3, runT_no (by
                     simp only [smK]
                     first
                     | rw [bI_0.mp hc33, bI_0.mp hc49]; rfl
                     | rw [bI_0.mp hc33, bI_0.mp hc61]; simp
                     | rw [bI_0.mp hc45, bI_0.mp hc49]; simp
                     | rw [bI_0.mp hc45, bI_0.mp hc61]; simp)])
              · skip
                refine J_iinc_4 C (1) dX2_endOf_64 (by decide) trivial ic_1 ?_
                refine J_goto C 23 dX2_endOf_67 (by decide) ?_
                rw [nI_1]
                refine ih (e + 1) (by omega) (by omega) (by omega) ?_
                rw [h3]
                refine runT_go hk ?_
                simp only [smK, Bool.or_eq_true, Bool.and_eq_true]
                first
                | exact Or.inl ⟨bI_n.mp hc33, bI_n.mp hc45⟩
                | exact Or.inr ⟨bI_n.mp hc49, bI_n.mp hc61⟩
  exact loop (n + 1) (s + 1) (Nat.le_refl _) hs (by omega) rfl
abbrev rmX2_spells : Room := { frames := 4, cells := 0, slots := 0, locals := 85 }
theorem dm_J0_charAt_5068e : yJ0_charAt_5068e.cls = RJ0 ∧ yJ0_charAt_5068e.cls ≠ "java/lang/invoke/MethodHandle" ∧ yJ0_charAt_5068e.cls ≠ "java/lang/invoke/VarHandle" ∧ (parseMethodDescriptor yJ0_charAt_5068e.desc).map (fun d => d.parameters.length) = some 1 := by decide +kernel
theorem dm_J0_length_8abf5 : yJ0_length_8abf5.cls = RJ0 ∧ yJ0_length_8abf5.cls ≠ "java/lang/invoke/MethodHandle" ∧ yJ0_length_8abf5.cls ≠ "java/lang/invoke/VarHandle" ∧ (parseMethodDescriptor yJ0_length_8abf5.desc).map (fun d => d.parameters.length) = some 0 := by decide +kernel
set_option maxRecDepth 100000 in
set_option maxHeartbeats 4000000 in
theorem c_X2_spells (E : EN) (hM : EM E) (V : SV) (g : Nat → Int32) (h : Nat → Int64) (T : Nat → Nat → Int32) (L : Nat → Nat → Int64) (n : Nat) (b : Nat → Nat) (hX : LxX g T n b) (s e i : Nat) (hs : s < e) (he : e ≤ n) (hi : i < 6) : GpIS E V yX2_spells wsX2_spells rmX2_spells [.ref (eA E 2), .int (nI s), .int (nI e), .ref (V.1 i)] g h T L (fun r => r = bI (spB b s e (chS.getD i []))) := by
  refine CtSN_of (cc := cX2_spells) (nL := 5) RX2 [some (.ref (eA E 2)), some (.int (nI s)), some (.int (nI e)), some (.ref (V.1 i)), none] ⟨rfl, rfl⟩ (by decide) rfl rfl (Nat.le_of_ble_eq_true rfl) ⟨1, rfl⟩ hM.2 (fun Y C hSP hQ => ?_)
  have hX0 := hX
  have hM0 := hM
  obtain ⟨hS, hNN⟩ := hM
  obtain ⟨x1, x2, x3, x4⟩ := hX
  obtain ⟨hl, hl5⟩ := s_all i hi
  have hsub : nI e - nI s = nI (e - s) := by rw [show nI e = nI (e - s) + nI s by rw [nI_add]; congr 1; omega, Int32.add_sub_cancel]
  refine J_iload_2 C dX2_spells_0 ?_
  refine J_iload_1 C dX2_spells_1 ?_
  refine J_isub C dX2_spells_2 ?_
  rw [hsub]
  refine J_aload_3 C dX2_spells_3 ?_
  refine J_cvSi C hSP dX2_spells_4 (c_length E hNN V (eN E) _ i hi) gX2_spells_J0_length_8abf5 rfl dm_J0_length_8abf5 (Rcv.word hSP hi) (Nat.le_refl _) rfl rfl (Nat.le_of_ble_eq_true rfl) (rmOK_b rfl) (fun r w2 hp => ?_)
  obtain ⟨rfl, rfl⟩ := hp
  rw [hl]
  refine J_icmp_eq C 12 dX2_spells_7 (by decide) (fun hc7 => ?_) (fun hc7 => ?_)
  · skip
    have hel : e - s = (chS.getD i []).length := nI_inj (by omega) (by omega) hc7
    refine J_iconst C (0) dX2_spells_12 ic_0 ?_
    refine J_istore_4 C dX2_spells_13 (by decide) trivial ?_
    have loop : ∀ (n2 : Nat) (k : Nat), k ≤ (chS.getD i []).length → (chS.getD i []).length < n2 + k → (∀ j, j < k → b (s + j) = (chS.getD i []).getD j 0) → J E Y (eN E) 0 0 (wS E g h T L) 15 [some (.ref (eA E 2)), some (.int (nI s)), some (.int (nI e)), some (.ref (V.1 i)), some (.int (nI k))] [] := by
      intro n2
      induction n2 with
      | zero =>
        intro k h1 h2 h3
        omega
      | succ n2 ih =>
        intro k h1 h2 h3
        refine J_iload_4 C dX2_spells_15 ?_
        refine J_aload_3 C dX2_spells_17 ?_
        refine J_cvSi C hSP dX2_spells_18 (c_length E hNN V (eN E) _ i hi) gX2_spells_J0_length_8abf5 rfl dm_J0_length_8abf5 (Rcv.word hSP hi) (Nat.le_refl _) rfl rfl (Nat.le_of_ble_eq_true rfl) (rmOK_b rfl) (fun r w2 hp => ?_)
        obtain ⟨rfl, rfl⟩ := hp
        rw [hl]
        refine J_icmp_ge C 49 dX2_spells_21 (by decide) (fun hc21 => ?_) (fun hc21 => ?_)
        · skip
          refine J_iconst C (1) dX2_spells_49 ic_1 ?_
          refine hQ _ _ _ _ dX2_spells_50 (by decide) ⟨rfl, ?_⟩
          have q : spB b s e (chS.getD i []) = true := by
            have hk : (chS.getD i []).length ≤ k := ge_nI (by omega) hc21
            unfold spB
            rw [Bool.and_eq_true, List.all_eq_true]
            refine ⟨decide_eq_true hel, fun j hj => ?_⟩
            rw [beq_iff_eq]
            exact h3 j (by have := List.mem_range.mp hj; omega)
          rw [q]; rfl
        · skip
          have hk : k < (chS.getD i []).length := lt_nI (by omega) hc21
          refine J_aload_0 C dX2_spells_24 ?_
          refine J_iload_1 C dX2_spells_25 ?_
          refine J_iload_4 C dX2_spells_26 ?_
          refine J_iadd C dX2_spells_28 ?_
          rw [nI_add]
          refine G_vpi C dX2_spells_29 (c_X2_byteAt E hM0 g h T L n b hX0 (s + k) (by omega)) gX2_spells_X2_byteAt rfl dm_X2_byteAt rfl rfl (hS _ (by decide)) rfl rfl (Nat.le_of_ble_eq_true rfl) (rmOK_b rfl) (fun r29 hr29 => ?_)
          subst hr29
          refine J_aload_3 C dX2_spells_32 ?_
          refine J_iload_4 C dX2_spells_33 ?_
          refine J_cvSi C hSP dX2_spells_35 (c_charAt E hNN V (eN E) _ i k hi (by rw [hl]; exact hk)) gX2_spells_J0_charAt_5068e rfl dm_J0_charAt_5068e (Rcv.word hSP hi) (Nat.le_refl _) rfl rfl (Nat.le_of_ble_eq_true rfl) (rmOK_b rfl) (fun r w2 hp => ?_)
          obtain ⟨rfl, rfl⟩ := hp
          refine J_icmp_eq C 43 dX2_spells_38 (by decide) (fun hc38 => ?_) (fun hc38 => ?_)
          · skip
            refine J_iinc_4 C (1) dX2_spells_43 (by decide) trivial ic_1 ?_
            refine J_goto C 15 dX2_spells_46 (by decide) ?_
            rw [nI_1]
            refine ih (k + 1) (by omega) (by omega) (fun j hj => ?_)
            by_cases q : j = k
            · subst q
              have h8 : (chS.getD i []).getD j 0 < 128 := (s_byte i hi j (by rw [hl]; exact hk)).2.1
              have h9 := (x4 (s + j) (by omega)).2
              exact nI_inj (by omega) (by omega) hc38
            · exact h3 j (by omega)
          · skip
            refine J_iconst C (0) dX2_spells_41 ic_0 ?_
            refine hQ _ _ _ _ dX2_spells_42 (by decide) ⟨rfl, ?_⟩
            have q : ¬ spB b s e (chS.getD i []) = true := by
              intro q
              unfold spB at q
              rw [Bool.and_eq_true, List.all_eq_true] at q
              have := q.2 k (List.mem_range.mpr hk)
              rw [beq_iff_eq] at this
              exact hc38 (by rw [this])
            rw [Bool.eq_false_iff.mpr q]; rfl
    exact loop 6 0 (by omega) (by omega) (fun j hj => by omega)
  · skip
    refine J_iconst C (0) dX2_spells_10 ic_0 ?_
    refine hQ _ _ _ _ dX2_spells_11 (by decide) ⟨rfl, ?_⟩
    have q : spB b s e (chS.getD i []) = false := by
      have : ¬ e - s = (chS.getD i []).length := fun q => hc7 (by rw [q])
      unfold spB
      rw [decide_eq_false this]; rfl
    rw [q]; rfl
