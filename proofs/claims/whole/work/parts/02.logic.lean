/-! the logic of this claim: an environment, a state in registers, a judgement J over them, a rule for each kind of instruction -/
abbrev EN : Type := Launch × va_G × (Nat → ClassId) × (Nat → Nat) × Nat × (Nat → Bool) × (Nat → va_E)
def eL (E : EN) : Launch := E.1
def eD (E : EN) : va_G := E.2.1
def eC (E : EN) : Nat → ClassId := E.2.2.1
def eA (E : EN) : Nat → Nat := E.2.2.2.1
def eN (E : EN) : Nat := E.2.2.2.2.1
def eS (E : EN) : Nat → Bool := E.2.2.2.2.2.1
def eW (E : EN) : Nat → va_E := E.2.2.2.2.2.2
abbrev YN : Type := Program × Env × Room × State × MethodId × Array Value × List Frame × Method × Code × Nat × (Nat → Prop) × (State → Prop)
def yp (Y : YN) : Program := Y.1
def ye (Y : YN) : Env := Y.2.1
def yR (Y : YN) : Room := Y.2.2.1
def ys (Y : YN) : State := Y.2.2.2.1
def ym (Y : YN) : MethodId := Y.2.2.2.2.1
def ya (Y : YN) : Array Value := Y.2.2.2.2.2.1
def yb (Y : YN) : List Frame := Y.2.2.2.2.2.2.1
def yM (Y : YN) : Method := Y.2.2.2.2.2.2.2.1
def yc (Y : YN) : Code := Y.2.2.2.2.2.2.2.2.1
def yn (Y : YN) : Nat := Y.2.2.2.2.2.2.2.2.2.1
def yA (Y : YN) : Nat → Prop := Y.2.2.2.2.2.2.2.2.2.2.1
def yQ (Y : YN) : State → Prop := Y.2.2.2.2.2.2.2.2.2.2.2
def tysOf (cy : Nat → ClassId) : List (ClassId × FieldType) := [(cy 0, .int), (cy 1, .long), (cy 2, .boolean), (cy 3, .object RX0), (cy 4, .array .long)]
def wsF (N : Nat) (ad : Nat → Nat) (w : Nat → va_E) : va_W := (List.range N).map (fun k => (ad k, w k))
theorem wsF_get {N k : Nat} (ad : Nat → Nat) (w : Nat → va_E) (h : k < N) : (wsF N ad w)[k]? = some (ad k, w k) := by
  simp [wsF, h]
theorem wsF_len (N : Nat) (ad : Nat → Nat) (w : Nat → va_E) : (wsF N ad w).length = N := by simp [wsF]
theorem wsF_of {N k : Nat} {ad : Nat → Nat} {w : Nat → va_E} {q : Nat × va_E} (h : (wsF N ad w)[k]? = some q) : k < N ∧ q = (ad k, w k) := by
  have hl : k < (wsF N ad w).length := (List.getElem?_eq_some_iff.mp h).1
  rw [wsF_len] at hl
  rw [wsF_get ad w hl] at h
  exact ⟨hl, (Option.some.inj h).symm⟩
theorem wsF_set {N k : Nat} (ad : Nat → Nat) (w : Nat → va_E) (e : va_E) : (wsF N ad w).set k (ad k, e) = wsF N ad (va_up w k e) := by
  apply List.ext_getElem?
  intro i
  rw [List.getElem?_set, wsF_len]
  by_cases hi : i < N
  · rw [wsF_get ad w hi, wsF_get ad _ hi]
    by_cases hk : k = i
    · subst hk
      simp [va_up, hi]
    · simp [va_up, hk, Ne.symm hk]
  · have h1 : (wsF N ad w)[i]? = none := by rw [List.getElem?_eq_none_iff, wsF_len]; omega
    have h2 : (wsF N ad (va_up w k e))[i]? = none := by rw [List.getElem?_eq_none_iff, wsF_len]; omega
    rw [h1, h2]
    by_cases hk : k = i
    · subst hk
      simp [hi]
    · simp [hk]
theorem wsF_push (N : Nat) (ad : Nat → Nat) (w : Nat → va_E) (e : va_E) : wsF N ad w ++ [(ad N, e)] = wsF (N + 1) ad (va_up w N e) := by
  unfold wsF
  rw [List.range_succ, List.map_append]
  congr 1
  · apply List.map_congr_left
    intro a ha
    have : a ≠ N := by have := List.mem_range.mp ha; omega
    simp [va_up, this]
  · simp [va_up]
theorem wsF_congr {N : Nat} {ad : Nat → Nat} {w v : Nat → va_E} (h : ∀ k, k < N → w k = v k) : wsF N ad w = wsF N ad v := by
  unfold wsF
  apply List.map_congr_left
  intro a ha
  rw [h a (List.mem_range.mp ha)]
def St (E : EN) (N : Nat) (w : Nat → va_E) (U : State) : Prop := va_P (eD E) vwCl (wsF N (eA E) w) U.heap ∧ va_K (eD E) vwCl (tysOf (eC E)) U ∧ (∀ i j, i < N → j < N → eA E i = eA E j → i = j) ∧ (∀ k, eA E (N + k) = U.heap.size + k)
def AF (E : EN) (N sz : Nat) : Nat → Prop := fun q => (∃ k, k < N ∧ q = eA E k) ∨ sz ≤ q
def Inv (E : EN) (Y : YN) (N : Nat) (w : Nat → va_E) (H : Heap) (locs : List Loc) : Prop := va_P (eD E) vwCl (wsF N (eA E) w) H ∧ (∀ i j, i < N → j < N → eA E i = eA E j → i = j) ∧ (∀ i, i < N → yA Y (eA E i)) ∧ (∀ k, eA E (N + k) = H.size + k) ∧ va_S (yA Y) (ys Y).heap H locs
theorem Inv.D {E : EN} {Y : YN} {N : Nat} {w : Nat → va_E} {H : Heap} {locs : List Loc} (h : Inv E Y N w H locs) : va_D (yA Y) (wsF N (eA E) w) := by
  refine ⟨fun i j p q hp hq e => ?_, fun k q hq => ?_⟩
  · obtain ⟨h1, rfl⟩ := wsF_of hp
    obtain ⟨h2, rfl⟩ := wsF_of hq
    exact h.2.1 i j h1 h2 e
  · obtain ⟨h1, rfl⟩ := wsF_of hq
    exact h.2.2.1 k h1
theorem Inv.put {E : EN} {Y : YN} {N k : Nat} {w : Nat → va_E} {e : va_E} {H H1 : Heap} {locs locs1 : List Loc} (h : Inv E Y N w H locs) (hz : H1.size = H.size) (hP : va_P (eD E) vwCl ((wsF N (eA E) w).set k (eA E k, e)) H1) (hS : va_S (yA Y) (ys Y).heap H1 locs1) : Inv E Y N (va_up w k e) H1 locs1 := by
  rw [wsF_set] at hP
  exact ⟨hP, h.2.1, h.2.2.1, by rw [hz]; exact h.2.2.2.1, hS⟩
/-- locals: what is known of each place -/
def lvH (ls : Array Slot) (n : Nat) (lv : List (Option Value)) : Prop := ls.size = n ∧ lv_wf ls ∧ ∀ (i : Nat) (v : Value), lv[i]? = some (some v) → ls[i]? = some (.val v)
def lvL : Nat → List (Option Value) → List (Nat × Value)
  | _, [] => []
  | i, none :: t => lvL (i + 1) t
  | i, some v :: t => (i, v) :: lvL (i + 1) t
theorem lvL_mem (lv : List (Option Value)) : ∀ (b i : Nat) (v : Value), (i, v) ∈ lvL b lv ↔ b ≤ i ∧ lv[i - b]? = some (some v) := by
  induction lv with
  | nil => intro b i v; simp [lvL]
  | cons x t ih =>
    intro b i v
    cases x with
    | none =>
      simp only [lvL, ih]
      constructor
      · rintro ⟨h1, h2⟩
        refine ⟨by omega, ?_⟩
        have : i - b = (i - (b + 1)) + 1 := by omega
        rw [this, List.getElem?_cons_succ]; exact h2
      · rintro ⟨h1, h2⟩
        have hne : i ≠ b := by
          intro e
          subst e
          simp at h2
        have : i - b = (i - (b + 1)) + 1 := by omega
        rw [this, List.getElem?_cons_succ] at h2
        exact ⟨by omega, h2⟩
    | some u =>
      simp only [lvL, List.mem_cons, ih, Prod.mk.injEq]
      constructor
      · rintro (⟨rfl, rfl⟩ | ⟨h1, h2⟩)
        · simp
        · refine ⟨by omega, ?_⟩
          have : i - b = (i - (b + 1)) + 1 := by omega
          rw [this, List.getElem?_cons_succ]; exact h2
      · rintro ⟨h1, h2⟩
        by_cases e : i = b
        · subst e
          simp at h2
          exact Or.inl ⟨rfl, h2.symm⟩
        · have : i - b = (i - (b + 1)) + 1 := by omega
          rw [this, List.getElem?_cons_succ] at h2
          exact Or.inr ⟨by omega, h2⟩
theorem lvH.has {ls : Array Slot} {n : Nat} {lv : List (Option Value)} (h : lvH ls n lv) : lv_has ls n (lvL 0 lv) := ⟨h.1, h.2.1, fun q hq => h.2.2 q.1 q.2 ((lvL_mem lv 0 q.1 q.2).mp hq).2⟩
def okS : Option Value → Prop
  | some (.long _) => False
  | some (.double _) => False
  | _ => True
theorem okS.cat {x : Option Value} (h : okS x) {v : Value} (hv : x = some v) : ¬ v.category = 2 := by
  subst hv
  cases v <;> simp [okS, Value.category] at h ⊢
theorem lvH.st1 {ls : Array Slot} {n : Nat} {lv : List (Option Value)} {i : Nat} {v : Value} (h : lv_has ls n ((i, v) :: (lvL 0 lv).filter (fun q => !(q.1 == i) && !(q.1 + 1 == i && q.2.category == 2)))) (hok : ∀ u, i ≠ 0 → lv[i - 1]? = some (some u) → ¬ u.category = 2) : lvH ls n (lv.set i (some v)) := by
  refine ⟨h.1, h.2.1, fun j u hu => ?_⟩
  rw [List.getElem?_set] at hu
  by_cases e : i = j
  · subst e
    rw [if_pos rfl] at hu
    split at hu
    · cases hu
      exact h.2.2 (i, v) List.mem_cons_self
    · cases hu
  · rw [if_neg e] at hu
    refine h.2.2 (j, u) (List.mem_cons_of_mem _ (List.mem_filter.mpr ⟨(lvL_mem lv 0 j u).mpr ⟨Nat.zero_le _, hu⟩, ?_⟩))
    have hji : j ≠ i := Ne.symm e
    by_cases e1 : j + 1 = i
    · subst e1
      have := hok u (by omega) (by simpa using hu)
      simp [hji, this]
    · simp [hji, e1]
theorem lvH.st2 {ls : Array Slot} {n : Nat} {lv : List (Option Value)} {i : Nat} {v : Value} (h : lv_has ls n ((i, v) :: (lvL 0 lv).filter (fun q => !(q.1 == i) && (!(q.1 == i + 1) && !(q.1 + 1 == i && q.2.category == 2))))) (hok : ∀ u, i ≠ 0 → lv[i - 1]? = some (some u) → ¬ u.category = 2) : lvH ls n ((lv.set i (some v)).set (i + 1) none) := by
  refine ⟨h.1, h.2.1, fun j u hu => ?_⟩
  rw [List.getElem?_set] at hu
  by_cases e2 : i + 1 = j
  · subst e2
    rw [if_pos rfl] at hu
    split at hu <;> cases hu
  · rw [if_neg e2, List.getElem?_set] at hu
    by_cases e : i = j
    · subst e
      rw [if_pos rfl] at hu
      split at hu
      · cases hu
        exact h.2.2 (i, v) List.mem_cons_self
      · cases hu
    · rw [if_neg e] at hu
      refine h.2.2 (j, u) (List.mem_cons_of_mem _ (List.mem_filter.mpr ⟨(lvL_mem lv 0 j u).mpr ⟨Nat.zero_le _, hu⟩, ?_⟩))
      have hji : j ≠ i := Ne.symm e
      have hji2 : j ≠ i + 1 := Ne.symm e2
      by_cases e1 : j + 1 = i
      · subst e1
        have := hok u (by omega) (by simpa using hu)
        simp [hji, hji2, this]
      · simp [hji, hji2, e1]
def Cx (E : EN) (Y : YN) (cc : ByteArray) (nL : Nat) (own : String) (Ts : List Cond) (R : Room) : Prop :=
  (yp Y).tables.exec = Jvm.exec ∧ (yc Y).code = cc ∧ (yc Y).maxLocals = yn Y ∧ yn Y = nL ∧ (ys Y).vm.findClass own = some (ym Y).cls ∧ (∀ x ∈ Ts, x.before (ya Y) (ys Y) = true) ∧ va_K (eD E) vwCl (tysOf (eC E)) (ys Y) ∧ yR Y = R ∧ (∀ q, (ys Y).heap.size ≤ q → yA Y q) ∧ (∀ k, eS E k = true → k < eN E)
def J (E : EN) (Y : YN) (N cs ss : Nat) (w : Nat → va_E) (pc : Nat) (lv : List (Option Value)) (st : List Value) : Prop :=
  ∀ (H : Heap) (locs : List Loc) (ls : Array Slot), Inv E Y N w H locs → lvH ls (yn Y) lv → W (yp Y) (eL E) (ye Y) (yR Y) (ys Y) (ym Y) (ya Y) (yb Y) (yM Y) (yc Y) H locs cs ss (yQ Y) (F0 (ym Y) pc ls st)
section JR
variable {E : EN} {Y : YN} {cc : ByteArray} {nL : Nat} {own : String} {Ts : List Cond} {R : Room} {N cs ss : Nat} {w : Nat → va_E} {pc : Nat} {lv : List (Option Value)} {st : List Value}
theorem J_pc {pc' : Nat} (h : pc' = pc) (k : J E Y N cs ss w pc lv st) : J E Y N cs ss w pc' lv st := h ▸ k

theorem J_iadd (C : Cx E Y cc nL own Ts R) {x y : Int32} (hd : decode cc pc = .ok (.iadd, 1))  (k : J E Y N cs ss w (pc + 1) lv (.int (x + y) :: st)) : J E Y N cs ss w pc lv (.int y :: .int x :: st) := fun H locs ls hI hl => lv_iadd C.1 C.2.1 hd  (k H locs ls hI hl)
theorem J_isub (C : Cx E Y cc nL own Ts R) {x y : Int32} (hd : decode cc pc = .ok (.isub, 1))  (k : J E Y N cs ss w (pc + 1) lv (.int (x - y) :: st)) : J E Y N cs ss w pc lv (.int y :: .int x :: st) := fun H locs ls hI hl => lv_isub C.1 C.2.1 hd  (k H locs ls hI hl)
theorem J_imul (C : Cx E Y cc nL own Ts R) {x y : Int32} (hd : decode cc pc = .ok (.imul, 1))  (k : J E Y N cs ss w (pc + 1) lv (.int (x * y) :: st)) : J E Y N cs ss w pc lv (.int y :: .int x :: st) := fun H locs ls hI hl => lv_imul C.1 C.2.1 hd  (k H locs ls hI hl)
theorem J_iand (C : Cx E Y cc nL own Ts R) {x y : Int32} (hd : decode cc pc = .ok (.iand, 1))  (k : J E Y N cs ss w (pc + 1) lv (.int (x &&& y) :: st)) : J E Y N cs ss w pc lv (.int y :: .int x :: st) := fun H locs ls hI hl => lv_iand C.1 C.2.1 hd  (k H locs ls hI hl)
theorem J_ior (C : Cx E Y cc nL own Ts R) {x y : Int32} (hd : decode cc pc = .ok (.ior, 1))  (k : J E Y N cs ss w (pc + 1) lv (.int (x ||| y) :: st)) : J E Y N cs ss w pc lv (.int y :: .int x :: st) := fun H locs ls hI hl => lv_ior C.1 C.2.1 hd  (k H locs ls hI hl)
theorem J_ixor (C : Cx E Y cc nL own Ts R) {x y : Int32} (hd : decode cc pc = .ok (.ixor, 1))  (k : J E Y N cs ss w (pc + 1) lv (.int (x ^^^ y) :: st)) : J E Y N cs ss w pc lv (.int y :: .int x :: st) := fun H locs ls hI hl => lv_ixor C.1 C.2.1 hd  (k H locs ls hI hl)
theorem J_ladd (C : Cx E Y cc nL own Ts R) {x y : Int64} (hd : decode cc pc = .ok (.ladd, 1))  (k : J E Y N cs ss w (pc + 1) lv (.long (x + y) :: st)) : J E Y N cs ss w pc lv (.long y :: .long x :: st) := fun H locs ls hI hl => lv_ladd C.1 C.2.1 hd  (k H locs ls hI hl)
theorem J_lsub (C : Cx E Y cc nL own Ts R) {x y : Int64} (hd : decode cc pc = .ok (.lsub, 1))  (k : J E Y N cs ss w (pc + 1) lv (.long (x - y) :: st)) : J E Y N cs ss w pc lv (.long y :: .long x :: st) := fun H locs ls hI hl => lv_lsub C.1 C.2.1 hd  (k H locs ls hI hl)
theorem J_lmul (C : Cx E Y cc nL own Ts R) {x y : Int64} (hd : decode cc pc = .ok (.lmul, 1))  (k : J E Y N cs ss w (pc + 1) lv (.long (x * y) :: st)) : J E Y N cs ss w pc lv (.long y :: .long x :: st) := fun H locs ls hI hl => lv_lmul C.1 C.2.1 hd  (k H locs ls hI hl)
theorem J_land (C : Cx E Y cc nL own Ts R) {x y : Int64} (hd : decode cc pc = .ok (.land, 1))  (k : J E Y N cs ss w (pc + 1) lv (.long (x &&& y) :: st)) : J E Y N cs ss w pc lv (.long y :: .long x :: st) := fun H locs ls hI hl => lv_land C.1 C.2.1 hd  (k H locs ls hI hl)
theorem J_lor (C : Cx E Y cc nL own Ts R) {x y : Int64} (hd : decode cc pc = .ok (.lor, 1))  (k : J E Y N cs ss w (pc + 1) lv (.long (x ||| y) :: st)) : J E Y N cs ss w pc lv (.long y :: .long x :: st) := fun H locs ls hI hl => lv_lor C.1 C.2.1 hd  (k H locs ls hI hl)
theorem J_idiv (C : Cx E Y cc nL own Ts R) {x y : Int32} (hd : decode cc pc = .ok (.idiv, 1)) (hne : ¬ y = 0) (k : J E Y N cs ss w (pc + 1) lv (.int (x / y) :: st)) : J E Y N cs ss w pc lv (.int y :: .int x :: st) := fun H locs ls hI hl => lv_idiv C.1 C.2.1 hd hne (k H locs ls hI hl)
theorem J_irem (C : Cx E Y cc nL own Ts R) {x y : Int32} (hd : decode cc pc = .ok (.irem, 1)) (hne : ¬ y = 0) (k : J E Y N cs ss w (pc + 1) lv (.int (x - x / y * y) :: st)) : J E Y N cs ss w pc lv (.int y :: .int x :: st) := fun H locs ls hI hl => lv_irem C.1 C.2.1 hd hne (k H locs ls hI hl)
theorem J_ldiv (C : Cx E Y cc nL own Ts R) {x y : Int64} (hd : decode cc pc = .ok (.ldiv, 1)) (hne : ¬ y = 0) (k : J E Y N cs ss w (pc + 1) lv (.long (x / y) :: st)) : J E Y N cs ss w pc lv (.long y :: .long x :: st) := fun H locs ls hI hl => lv_ldiv C.1 C.2.1 hd hne (k H locs ls hI hl)
theorem J_ishl (C : Cx E Y cc nL own Ts R) {x y : Int32} (hd : decode cc pc = .ok (.ishl, 1))  (k : J E Y N cs ss w (pc + 1) lv (.int (x <<< (y &&& 31)) :: st)) : J E Y N cs ss w pc lv (.int y :: .int x :: st) := fun H locs ls hI hl => lv_ishl C.1 C.2.1 hd  (k H locs ls hI hl)
theorem J_ishr (C : Cx E Y cc nL own Ts R) {x y : Int32} (hd : decode cc pc = .ok (.ishr, 1))  (k : J E Y N cs ss w (pc + 1) lv (.int (x >>> (y &&& 31)) :: st)) : J E Y N cs ss w pc lv (.int y :: .int x :: st) := fun H locs ls hI hl => lv_ishr C.1 C.2.1 hd  (k H locs ls hI hl)
theorem J_iushr (C : Cx E Y cc nL own Ts R) {x y : Int32} (hd : decode cc pc = .ok (.iushr, 1))  (k : J E Y N cs ss w (pc + 1) lv (.int ((x.toUInt32 >>> (y.toUInt32 &&& Int32.toUInt32 31)).toInt32) :: st)) : J E Y N cs ss w pc lv (.int y :: .int x :: st) := fun H locs ls hI hl => lv_iushr C.1 C.2.1 hd rfl (k H locs ls hI hl)
theorem J_lushr (C : Cx E Y cc nL own Ts R) {x : Int64} {y : Int32} (hd : decode cc pc = .ok (.lushr, 1))  (k : J E Y N cs ss w (pc + 1) lv (.long ((x.toUInt64 >>> (y.toInt64.toUInt64 &&& Int64.toUInt64 63)).toInt64) :: st)) : J E Y N cs ss w pc lv (.int y :: .long x :: st) := fun H locs ls hI hl => lv_lushr C.1 C.2.1 hd rfl (k H locs ls hI hl)
theorem J_lshl (C : Cx E Y cc nL own Ts R) {x : Int64} {y : Int32} (hd : decode cc pc = .ok (.lshl, 1))  (k : J E Y N cs ss w (pc + 1) lv (.long (x <<< (y.toInt64 &&& 63)) :: st)) : J E Y N cs ss w pc lv (.int y :: .long x :: st) := fun H locs ls hI hl => lv_lshl C.1 C.2.1 hd rfl (k H locs ls hI hl)
theorem J_lshr (C : Cx E Y cc nL own Ts R) {x : Int64} {y : Int32} (hd : decode cc pc = .ok (.lshr, 1))  (k : J E Y N cs ss w (pc + 1) lv (.long (x >>> (y.toInt64 &&& 63)) :: st)) : J E Y N cs ss w pc lv (.int y :: .long x :: st) := fun H locs ls hI hl => lv_lshr C.1 C.2.1 hd rfl (k H locs ls hI hl)
theorem J_i2l (C : Cx E Y cc nL own Ts R) {x : Int32} (hd : decode cc pc = .ok (.i2l, 1))  (k : J E Y N cs ss w (pc + 1) lv (.long x.toInt64 :: st)) : J E Y N cs ss w pc lv (.int x :: st) := fun H locs ls hI hl => lv_i2l C.1 C.2.1 hd rfl (k H locs ls hI hl)
theorem J_l2i (C : Cx E Y cc nL own Ts R) {x : Int64} (hd : decode cc pc = .ok (.l2i, 1))  (k : J E Y N cs ss w (pc + 1) lv (.int x.toInt32 :: st)) : J E Y N cs ss w pc lv (.long x :: st) := fun H locs ls hI hl => lv_l2i C.1 C.2.1 hd rfl (k H locs ls hI hl)
theorem J_lcmp (C : Cx E Y cc nL own Ts R) {x y : Int64} (hd : decode cc pc = .ok (.lcmp, 1))  (k : J E Y N cs ss w (pc + 1) lv (.int (lg_cmp x y) :: st)) : J E Y N cs ss w pc lv (.long y :: .long x :: st) := fun H locs ls hI hl => W.lcmp C.1 C.2.1 hd  (k H locs ls hI hl)
theorem J_dupi (C : Cx E Y cc nL own Ts R) {x : Int32} (hd : decode cc pc = .ok (.dup, 1))  (k : J E Y N cs ss w (pc + 1) lv (.int x :: .int x :: st)) : J E Y N cs ss w pc lv (.int x :: st) := fun H locs ls hI hl => lv_dup C.1 C.2.1 hd rfl (k H locs ls hI hl)
theorem J_dup (C : Cx E Y cc nL own Ts R) {a : Nat} (hd : decode cc pc = .ok (.dup, 1))  (k : J E Y N cs ss w (pc + 1) lv (.ref a :: .ref a :: st)) : J E Y N cs ss w pc lv (.ref a :: st) := fun H locs ls hI hl => lv_dup C.1 C.2.1 hd rfl (k H locs ls hI hl)
theorem J_dup2 (C : Cx E Y cc nL own Ts R) {x : Int32} {a : Nat} (hd : decode cc pc = .ok (.dup2, 1))  (k : J E Y N cs ss w (pc + 1) lv (.int x :: .ref a :: .int x :: .ref a :: st)) : J E Y N cs ss w pc lv (.int x :: .ref a :: st) := fun H locs ls hI hl => lv_dup2_11 C.1 C.2.1 hd rfl rfl (k H locs ls hI hl)
theorem J_iconst (C : Cx E Y cc nL own Ts R) {n : Int} (v : Int32) (hd : decode cc pc = .ok (.iconst n, 1)) (hv : Int32.ofInt n = v) (k : J E Y N cs ss w (pc + 1) lv (.int v :: st)) : J E Y N cs ss w pc lv (st) := fun H locs ls hI hl => lv_iconst C.1 C.2.1 hd hv (k H locs ls hI hl)
theorem J_bipush (C : Cx E Y cc nL own Ts R) {n : Int} (v : Int32) (hd : decode cc pc = .ok (.bipush n, 2)) (hv : (Int8.ofInt n).toInt32 = v) (k : J E Y N cs ss w (pc + 2) lv (.int v :: st)) : J E Y N cs ss w pc lv (st) := fun H locs ls hI hl => lv_bipush C.1 C.2.1 hd hv (k H locs ls hI hl)
theorem J_sipush (C : Cx E Y cc nL own Ts R) {n : Int} (v : Int32) (hd : decode cc pc = .ok (.sipush n, 3)) (hv : (Int16.ofInt n).toInt32 = v) (k : J E Y N cs ss w (pc + 3) lv (.int v :: st)) : J E Y N cs ss w pc lv (st) := fun H locs ls hI hl => lv_sipush C.1 C.2.1 hd hv (k H locs ls hI hl)
theorem J_lconst (C : Cx E Y cc nL own Ts R) {n : Fin 2} (v : Int64) (hd : decode cc pc = .ok (.lconst n, 1)) (hv : Int64.ofNat (n : Nat) = v) (k : J E Y N cs ss w (pc + 1) lv (.long v :: st)) : J E Y N cs ss w pc lv (st) := fun H locs ls hI hl => lv_lconst C.1 C.2.1 hd hv (k H locs ls hI hl)
theorem J_ldc (C : Cx E Y cc nL own Ts R) {i : Nat} {v : Int32} (hc : Cond.constant own i v ∈ Ts) (hd : decode cc pc = .ok (.ldc i, 2)) (k : J E Y N cs ss w (pc + 2) lv (.int v :: st)) : J E Y N cs ss w pc lv st := fun H locs ls hI hl => lv_ldc C.1 C.2.1 C.2.2.2.2.1 (C.2.2.2.2.2.1 _ hc) hd (k H locs ls hI hl)
theorem J_ldc2 (C : Cx E Y cc nL own Ts R) {i : Nat} {v : Int64} (hc : Cond.constantLong own i v ∈ Ts) (hd : decode cc pc = .ok (.ldc2_w i, 3)) (k : J E Y N cs ss w (pc + 3) lv (.long v :: st)) : J E Y N cs ss w pc lv st := fun H locs ls hI hl => lv_ldc2 C.1 C.2.1 C.2.2.2.2.1 (C.2.2.2.2.2.1 _ hc) hd (k H locs ls hI hl)
theorem J_goto (C : Cx E Y cc nL own Ts R) {off : Int} (tgt : Nat) (hd : decode cc pc = .ok (.goto off, 3)) (ht : (pc : Int) + off = (tgt : Int)) (k : J E Y N cs ss w tgt lv st) : J E Y N cs ss w pc lv st := fun H locs ls hI hl => lv_goto C.1 C.2.1 hd ht (k H locs ls hI hl)
theorem J_ifnull (C : Cx E Y cc nL own Ts R) {a : Nat} {off : Int} (hd : decode cc pc = .ok (.ifnull off, 3)) (k : J E Y N cs ss w (pc + 3) lv st) : J E Y N cs ss w pc lv (.ref a :: st) := fun H locs ls hI hl => lv_ifnull C.1 C.2.1 hd (k H locs ls hI hl)
-- if_eq: x = 0 | ¬ x = 0 ; icmp: x = y | ¬ x = y
theorem J_if_eq (C : Cx E Y cc nL own Ts R) {x : Int32} {off : Int} (tgt : Nat) (hd : decode cc pc = .ok (.ifCond .eq off, 3)) (ht : (pc : Int) + off = (tgt : Int)) (kt : x = 0 → J E Y N cs ss w tgt lv st) (kf : ¬ x = 0 → J E Y N cs ss w (pc + 3) lv st) : J E Y N cs ss w pc lv (.int x :: st) := fun H locs ls hI hl => lv_if_eq C.1 C.2.1 hd ht (fun h => kt h H locs ls hI hl) (fun h => kf h H locs ls hI hl)
theorem J_icmp_eq (C : Cx E Y cc nL own Ts R) {x y : Int32} {off : Int} (tgt : Nat) (hd : decode cc pc = .ok (.if_icmp .eq off, 3)) (ht : (pc : Int) + off = (tgt : Int)) (kt : x = y → J E Y N cs ss w tgt lv st) (kf : ¬ x = y → J E Y N cs ss w (pc + 3) lv st) : J E Y N cs ss w pc lv (.int y :: .int x :: st) := fun H locs ls hI hl => lv_icmp_eq C.1 C.2.1 hd ht (fun h => kt h H locs ls hI hl) (fun h => kf h H locs ls hI hl)
-- if_ne: ¬ x = 0 | x = 0 ; icmp: ¬ x = y | x = y
theorem J_if_ne (C : Cx E Y cc nL own Ts R) {x : Int32} {off : Int} (tgt : Nat) (hd : decode cc pc = .ok (.ifCond .ne off, 3)) (ht : (pc : Int) + off = (tgt : Int)) (kt : ¬ x = 0 → J E Y N cs ss w tgt lv st) (kf : x = 0 → J E Y N cs ss w (pc + 3) lv st) : J E Y N cs ss w pc lv (.int x :: st) := fun H locs ls hI hl => lv_if_ne C.1 C.2.1 hd ht (fun h => kt h H locs ls hI hl) (fun h => kf h H locs ls hI hl)
theorem J_icmp_ne (C : Cx E Y cc nL own Ts R) {x y : Int32} {off : Int} (tgt : Nat) (hd : decode cc pc = .ok (.if_icmp .ne off, 3)) (ht : (pc : Int) + off = (tgt : Int)) (kt : ¬ x = y → J E Y N cs ss w tgt lv st) (kf : x = y → J E Y N cs ss w (pc + 3) lv st) : J E Y N cs ss w pc lv (.int y :: .int x :: st) := fun H locs ls hI hl => lv_icmp_ne C.1 C.2.1 hd ht (fun h => kt h H locs ls hI hl) (fun h => kf h H locs ls hI hl)
-- if_lt: x < 0 | ¬ x < 0 ; icmp: x < y | ¬ x < y
theorem J_if_lt (C : Cx E Y cc nL own Ts R) {x : Int32} {off : Int} (tgt : Nat) (hd : decode cc pc = .ok (.ifCond .lt off, 3)) (ht : (pc : Int) + off = (tgt : Int)) (kt : x < 0 → J E Y N cs ss w tgt lv st) (kf : ¬ x < 0 → J E Y N cs ss w (pc + 3) lv st) : J E Y N cs ss w pc lv (.int x :: st) := fun H locs ls hI hl => lv_if_lt C.1 C.2.1 hd ht (fun h => kt h H locs ls hI hl) (fun h => kf h H locs ls hI hl)
theorem J_icmp_lt (C : Cx E Y cc nL own Ts R) {x y : Int32} {off : Int} (tgt : Nat) (hd : decode cc pc = .ok (.if_icmp .lt off, 3)) (ht : (pc : Int) + off = (tgt : Int)) (kt : x < y → J E Y N cs ss w tgt lv st) (kf : ¬ x < y → J E Y N cs ss w (pc + 3) lv st) : J E Y N cs ss w pc lv (.int y :: .int x :: st) := fun H locs ls hI hl => lv_icmp_lt C.1 C.2.1 hd ht (fun h => kt h H locs ls hI hl) (fun h => kf h H locs ls hI hl)
-- if_ge: 0 ≤ x | ¬ 0 ≤ x ; icmp: y ≤ x | ¬ y ≤ x
theorem J_if_ge (C : Cx E Y cc nL own Ts R) {x : Int32} {off : Int} (tgt : Nat) (hd : decode cc pc = .ok (.ifCond .ge off, 3)) (ht : (pc : Int) + off = (tgt : Int)) (kt : 0 ≤ x → J E Y N cs ss w tgt lv st) (kf : ¬ 0 ≤ x → J E Y N cs ss w (pc + 3) lv st) : J E Y N cs ss w pc lv (.int x :: st) := fun H locs ls hI hl => lv_if_ge C.1 C.2.1 hd ht (fun h => kt h H locs ls hI hl) (fun h => kf h H locs ls hI hl)
theorem J_icmp_ge (C : Cx E Y cc nL own Ts R) {x y : Int32} {off : Int} (tgt : Nat) (hd : decode cc pc = .ok (.if_icmp .ge off, 3)) (ht : (pc : Int) + off = (tgt : Int)) (kt : y ≤ x → J E Y N cs ss w tgt lv st) (kf : ¬ y ≤ x → J E Y N cs ss w (pc + 3) lv st) : J E Y N cs ss w pc lv (.int y :: .int x :: st) := fun H locs ls hI hl => lv_icmp_ge C.1 C.2.1 hd ht (fun h => kt h H locs ls hI hl) (fun h => kf h H locs ls hI hl)
-- if_gt: 0 < x | ¬ 0 < x ; icmp: y < x | ¬ y < x
theorem J_if_gt (C : Cx E Y cc nL own Ts R) {x : Int32} {off : Int} (tgt : Nat) (hd : decode cc pc = .ok (.ifCond .gt off, 3)) (ht : (pc : Int) + off = (tgt : Int)) (kt : 0 < x → J E Y N cs ss w tgt lv st) (kf : ¬ 0 < x → J E Y N cs ss w (pc + 3) lv st) : J E Y N cs ss w pc lv (.int x :: st) := fun H locs ls hI hl => lv_if_gt C.1 C.2.1 hd ht (fun h => kt h H locs ls hI hl) (fun h => kf h H locs ls hI hl)
theorem J_icmp_gt (C : Cx E Y cc nL own Ts R) {x y : Int32} {off : Int} (tgt : Nat) (hd : decode cc pc = .ok (.if_icmp .gt off, 3)) (ht : (pc : Int) + off = (tgt : Int)) (kt : y < x → J E Y N cs ss w tgt lv st) (kf : ¬ y < x → J E Y N cs ss w (pc + 3) lv st) : J E Y N cs ss w pc lv (.int y :: .int x :: st) := fun H locs ls hI hl => lv_icmp_gt C.1 C.2.1 hd ht (fun h => kt h H locs ls hI hl) (fun h => kf h H locs ls hI hl)
-- if_le: x ≤ 0 | ¬ x ≤ 0 ; icmp: x ≤ y | ¬ x ≤ y
theorem J_if_le (C : Cx E Y cc nL own Ts R) {x : Int32} {off : Int} (tgt : Nat) (hd : decode cc pc = .ok (.ifCond .le off, 3)) (ht : (pc : Int) + off = (tgt : Int)) (kt : x ≤ 0 → J E Y N cs ss w tgt lv st) (kf : ¬ x ≤ 0 → J E Y N cs ss w (pc + 3) lv st) : J E Y N cs ss w pc lv (.int x :: st) := fun H locs ls hI hl => lv_if_le C.1 C.2.1 hd ht (fun h => kt h H locs ls hI hl) (fun h => kf h H locs ls hI hl)
theorem J_icmp_le (C : Cx E Y cc nL own Ts R) {x y : Int32} {off : Int} (tgt : Nat) (hd : decode cc pc = .ok (.if_icmp .le off, 3)) (ht : (pc : Int) + off = (tgt : Int)) (kt : x ≤ y → J E Y N cs ss w tgt lv st) (kf : ¬ x ≤ y → J E Y N cs ss w (pc + 3) lv st) : J E Y N cs ss w pc lv (.int y :: .int x :: st) := fun H locs ls hI hl => lv_icmp_le C.1 C.2.1 hd ht (fun h => kt h H locs ls hI hl) (fun h => kf h H locs ls hI hl)
theorem J_tin (C : Cx E Y cc nL own Ts R) {dflt lo hi : Int} {offs : Array Int} {x : Int32} {off : Int} {len : Nat} (tgt : Nat) (hd : decode cc pc = .ok (.tableswitch dflt lo hi offs, len)) (h1 : ¬ x.toInt < lo) (h2 : ¬ hi < x.toInt) (ho : offs[(x.toInt - lo).toNat]? = some off) (ht : (pc : Int) + off = (tgt : Int)) (k : J E Y N cs ss w tgt lv st) : J E Y N cs ss w pc lv (.int x :: st) := fun H locs ls hI hl => lv_tableIn C.1 C.2.1 hd h1 h2 ho ht (k H locs ls hI hl)
theorem J_tout (C : Cx E Y cc nL own Ts R) {dflt lo hi : Int} {offs : Array Int} {x : Int32} {len : Nat} (tgt : Nat) (hd : decode cc pc = .ok (.tableswitch dflt lo hi offs, len)) (h : x.toInt < lo ∨ hi < x.toInt) (ht : (pc : Int) + dflt = (tgt : Int)) (k : J E Y N cs ss w tgt lv st) : J E Y N cs ss w pc lv (.int x :: st) := fun H locs ls hI hl => lv_tableOut C.1 C.2.1 hd h ht (k H locs ls hI hl)
theorem J_top {x y : Int32} (h : x = y) (k : J E Y N cs ss w pc lv (.int y :: st)) : J E Y N cs ss w pc lv (.int x :: st) := h ▸ k
theorem J_topl {x y : Int64} (h : x = y) (k : J E Y N cs ss w pc lv (.long y :: st)) : J E Y N cs ss w pc lv (.long x :: st) := h ▸ k
theorem J_wk {lv' : List (Option Value)} (h : ∀ (i : Nat) (v : Value), lv'[i]? = some (some v) → lv[i]? = some (some v)) (k : J E Y N cs ss w pc lv' st) : J E Y N cs ss w pc lv st := fun H locs ls hI hl => k H locs ls hI ⟨hl.1, hl.2.1, fun i v hv => hl.2.2 i v (h i v hv)⟩
theorem J_iload_0 (C : Cx E Y cc nL own Ts R) {t : List (Option Value)} {v : Int32} (hd : decode cc pc = .ok (.iload_n 0, 1)) (k : J E Y N cs ss w (pc + 1) (some (.int v) :: t) (.int v :: st)) : J E Y N cs ss w pc (some (.int v) :: t) st := fun H locs ls hI hl => lv_iload_n C.1 C.2.1 hd rfl (hl.2.2 0 _ rfl) (k H locs ls hI hl)
theorem J_istore_0 (C : Cx E Y cc nL own Ts R) {x0 : Option Value} {t : List (Option Value)} {v : Int32} (hd : decode cc pc = .ok (.istore_n 0, 1)) (hn : 0 < nL) (k : J E Y N cs ss w (pc + 1) (some (.int v) :: t) st) : J E Y N cs ss w pc (x0 :: t) (.int v :: st) := fun H locs ls hI hl => lv_istore_n C.1 C.2.1 hd rfl hl.has (by rw [C.2.2.2.1]; exact hn) rfl (fun ls2 h2 => k H locs ls2 hI (lvH.st1 h2 (fun u h0 _ => absurd rfl h0)))
theorem J_iinc_0 (C : Cx E Y cc nL own Ts R) {t : List (Option Value)} {v : Int32} {n : Int} (d : Int32) (hd : decode cc pc = .ok (.iinc 0 n, 3)) (hn : 0 < nL) (he : Int32.ofInt n = d) (k : J E Y N cs ss w (pc + 3) (some (.int (v + d)) :: t) st) : J E Y N cs ss w pc (some (.int v) :: t) st := fun H locs ls hI hl => by
  obtain ⟨q, hq⟩ := List.getElem?_of_mem ((lvL_mem (some (.int v) :: t) 0 0 (.int v)).mpr ⟨Nat.zero_le _, rfl⟩)
  exact lv_iinc C.1 C.2.1 hd hl.has (k := q) hq (by rw [he]) (by rw [C.2.2.2.1]; exact hn) rfl (fun ls2 h2 => k H locs ls2 hI (lvH.st1 h2 (fun u h0 _ => absurd rfl h0)))
theorem J_iload_1 (C : Cx E Y cc nL own Ts R) {x0 : Option Value} {t : List (Option Value)} {v : Int32} (hd : decode cc pc = .ok (.iload_n 1, 1)) (k : J E Y N cs ss w (pc + 1) (x0 :: some (.int v) :: t) (.int v :: st)) : J E Y N cs ss w pc (x0 :: some (.int v) :: t) st := fun H locs ls hI hl => lv_iload_n C.1 C.2.1 hd rfl (hl.2.2 1 _ rfl) (k H locs ls hI hl)
theorem J_istore_1 (C : Cx E Y cc nL own Ts R) {x0 : Option Value} {x1 : Option Value} {t : List (Option Value)} {v : Int32} (hd : decode cc pc = .ok (.istore_n 1, 1)) (hn : 1 < nL) (ho : okS x0) (k : J E Y N cs ss w (pc + 1) (x0 :: some (.int v) :: t) st) : J E Y N cs ss w pc (x0 :: x1 :: t) (.int v :: st) := fun H locs ls hI hl => lv_istore_n C.1 C.2.1 hd rfl hl.has (by rw [C.2.2.2.1]; exact hn) rfl (fun ls2 h2 => k H locs ls2 hI (lvH.st1 h2 (fun u _ hu => okS.cat ho (Option.some.inj hu))))
theorem J_iinc_1 (C : Cx E Y cc nL own Ts R) {x0 : Option Value} {t : List (Option Value)} {v : Int32} {n : Int} (d : Int32) (hd : decode cc pc = .ok (.iinc 1 n, 3)) (hn : 1 < nL) (ho : okS x0) (he : Int32.ofInt n = d) (k : J E Y N cs ss w (pc + 3) (x0 :: some (.int (v + d)) :: t) st) : J E Y N cs ss w pc (x0 :: some (.int v) :: t) st := fun H locs ls hI hl => by
  obtain ⟨q, hq⟩ := List.getElem?_of_mem ((lvL_mem (x0 :: some (.int v) :: t) 0 1 (.int v)).mpr ⟨Nat.zero_le _, rfl⟩)
  exact lv_iinc C.1 C.2.1 hd hl.has (k := q) hq (by rw [he]) (by rw [C.2.2.2.1]; exact hn) rfl (fun ls2 h2 => k H locs ls2 hI (lvH.st1 h2 (fun u _ hu => okS.cat ho (Option.some.inj hu))))
theorem J_iload_2 (C : Cx E Y cc nL own Ts R) {x0 x1 : Option Value} {t : List (Option Value)} {v : Int32} (hd : decode cc pc = .ok (.iload_n 2, 1)) (k : J E Y N cs ss w (pc + 1) (x0 :: x1 :: some (.int v) :: t) (.int v :: st)) : J E Y N cs ss w pc (x0 :: x1 :: some (.int v) :: t) st := fun H locs ls hI hl => lv_iload_n C.1 C.2.1 hd rfl (hl.2.2 2 _ rfl) (k H locs ls hI hl)
theorem J_istore_2 (C : Cx E Y cc nL own Ts R) {x0 x1 : Option Value} {x2 : Option Value} {t : List (Option Value)} {v : Int32} (hd : decode cc pc = .ok (.istore_n 2, 1)) (hn : 2 < nL) (ho : okS x1) (k : J E Y N cs ss w (pc + 1) (x0 :: x1 :: some (.int v) :: t) st) : J E Y N cs ss w pc (x0 :: x1 :: x2 :: t) (.int v :: st) := fun H locs ls hI hl => lv_istore_n C.1 C.2.1 hd rfl hl.has (by rw [C.2.2.2.1]; exact hn) rfl (fun ls2 h2 => k H locs ls2 hI (lvH.st1 h2 (fun u _ hu => okS.cat ho (Option.some.inj hu))))
theorem J_iinc_2 (C : Cx E Y cc nL own Ts R) {x0 x1 : Option Value} {t : List (Option Value)} {v : Int32} {n : Int} (d : Int32) (hd : decode cc pc = .ok (.iinc 2 n, 3)) (hn : 2 < nL) (ho : okS x1) (he : Int32.ofInt n = d) (k : J E Y N cs ss w (pc + 3) (x0 :: x1 :: some (.int (v + d)) :: t) st) : J E Y N cs ss w pc (x0 :: x1 :: some (.int v) :: t) st := fun H locs ls hI hl => by
  obtain ⟨q, hq⟩ := List.getElem?_of_mem ((lvL_mem (x0 :: x1 :: some (.int v) :: t) 0 2 (.int v)).mpr ⟨Nat.zero_le _, rfl⟩)
  exact lv_iinc C.1 C.2.1 hd hl.has (k := q) hq (by rw [he]) (by rw [C.2.2.2.1]; exact hn) rfl (fun ls2 h2 => k H locs ls2 hI (lvH.st1 h2 (fun u _ hu => okS.cat ho (Option.some.inj hu))))
theorem J_iload_3 (C : Cx E Y cc nL own Ts R) {x0 x1 x2 : Option Value} {t : List (Option Value)} {v : Int32} (hd : decode cc pc = .ok (.iload_n 3, 1)) (k : J E Y N cs ss w (pc + 1) (x0 :: x1 :: x2 :: some (.int v) :: t) (.int v :: st)) : J E Y N cs ss w pc (x0 :: x1 :: x2 :: some (.int v) :: t) st := fun H locs ls hI hl => lv_iload_n C.1 C.2.1 hd rfl (hl.2.2 3 _ rfl) (k H locs ls hI hl)
theorem J_istore_3 (C : Cx E Y cc nL own Ts R) {x0 x1 x2 : Option Value} {x3 : Option Value} {t : List (Option Value)} {v : Int32} (hd : decode cc pc = .ok (.istore_n 3, 1)) (hn : 3 < nL) (ho : okS x2) (k : J E Y N cs ss w (pc + 1) (x0 :: x1 :: x2 :: some (.int v) :: t) st) : J E Y N cs ss w pc (x0 :: x1 :: x2 :: x3 :: t) (.int v :: st) := fun H locs ls hI hl => lv_istore_n C.1 C.2.1 hd rfl hl.has (by rw [C.2.2.2.1]; exact hn) rfl (fun ls2 h2 => k H locs ls2 hI (lvH.st1 h2 (fun u _ hu => okS.cat ho (Option.some.inj hu))))
theorem J_iinc_3 (C : Cx E Y cc nL own Ts R) {x0 x1 x2 : Option Value} {t : List (Option Value)} {v : Int32} {n : Int} (d : Int32) (hd : decode cc pc = .ok (.iinc 3 n, 3)) (hn : 3 < nL) (ho : okS x2) (he : Int32.ofInt n = d) (k : J E Y N cs ss w (pc + 3) (x0 :: x1 :: x2 :: some (.int (v + d)) :: t) st) : J E Y N cs ss w pc (x0 :: x1 :: x2 :: some (.int v) :: t) st := fun H locs ls hI hl => by
  obtain ⟨q, hq⟩ := List.getElem?_of_mem ((lvL_mem (x0 :: x1 :: x2 :: some (.int v) :: t) 0 3 (.int v)).mpr ⟨Nat.zero_le _, rfl⟩)
  exact lv_iinc C.1 C.2.1 hd hl.has (k := q) hq (by rw [he]) (by rw [C.2.2.2.1]; exact hn) rfl (fun ls2 h2 => k H locs ls2 hI (lvH.st1 h2 (fun u _ hu => okS.cat ho (Option.some.inj hu))))
theorem J_iload_4 (C : Cx E Y cc nL own Ts R) {x0 x1 x2 x3 : Option Value} {t : List (Option Value)} {v : Int32} (hd : decode cc pc = .ok (.iload 4, 2)) (k : J E Y N cs ss w (pc + 2) (x0 :: x1 :: x2 :: x3 :: some (.int v) :: t) (.int v :: st)) : J E Y N cs ss w pc (x0 :: x1 :: x2 :: x3 :: some (.int v) :: t) st := fun H locs ls hI hl => lv_iload C.1 C.2.1 hd (hl.2.2 4 _ rfl) (k H locs ls hI hl)
theorem J_istore_4 (C : Cx E Y cc nL own Ts R) {x0 x1 x2 x3 : Option Value} {x4 : Option Value} {t : List (Option Value)} {v : Int32} (hd : decode cc pc = .ok (.istore 4, 2)) (hn : 4 < nL) (ho : okS x3) (k : J E Y N cs ss w (pc + 2) (x0 :: x1 :: x2 :: x3 :: some (.int v) :: t) st) : J E Y N cs ss w pc (x0 :: x1 :: x2 :: x3 :: x4 :: t) (.int v :: st) := fun H locs ls hI hl => lv_istore C.1 C.2.1 hd hl.has (by rw [C.2.2.2.1]; exact hn) rfl (fun ls2 h2 => k H locs ls2 hI (lvH.st1 h2 (fun u _ hu => okS.cat ho (Option.some.inj hu))))
theorem J_iinc_4 (C : Cx E Y cc nL own Ts R) {x0 x1 x2 x3 : Option Value} {t : List (Option Value)} {v : Int32} {n : Int} (d : Int32) (hd : decode cc pc = .ok (.iinc 4 n, 3)) (hn : 4 < nL) (ho : okS x3) (he : Int32.ofInt n = d) (k : J E Y N cs ss w (pc + 3) (x0 :: x1 :: x2 :: x3 :: some (.int (v + d)) :: t) st) : J E Y N cs ss w pc (x0 :: x1 :: x2 :: x3 :: some (.int v) :: t) st := fun H locs ls hI hl => by
  obtain ⟨q, hq⟩ := List.getElem?_of_mem ((lvL_mem (x0 :: x1 :: x2 :: x3 :: some (.int v) :: t) 0 4 (.int v)).mpr ⟨Nat.zero_le _, rfl⟩)
  exact lv_iinc C.1 C.2.1 hd hl.has (k := q) hq (by rw [he]) (by rw [C.2.2.2.1]; exact hn) rfl (fun ls2 h2 => k H locs ls2 hI (lvH.st1 h2 (fun u _ hu => okS.cat ho (Option.some.inj hu))))
theorem J_iload_5 (C : Cx E Y cc nL own Ts R) {x0 x1 x2 x3 x4 : Option Value} {t : List (Option Value)} {v : Int32} (hd : decode cc pc = .ok (.iload 5, 2)) (k : J E Y N cs ss w (pc + 2) (x0 :: x1 :: x2 :: x3 :: x4 :: some (.int v) :: t) (.int v :: st)) : J E Y N cs ss w pc (x0 :: x1 :: x2 :: x3 :: x4 :: some (.int v) :: t) st := fun H locs ls hI hl => lv_iload C.1 C.2.1 hd (hl.2.2 5 _ rfl) (k H locs ls hI hl)
theorem J_istore_5 (C : Cx E Y cc nL own Ts R) {x0 x1 x2 x3 x4 : Option Value} {x5 : Option Value} {t : List (Option Value)} {v : Int32} (hd : decode cc pc = .ok (.istore 5, 2)) (hn : 5 < nL) (ho : okS x4) (k : J E Y N cs ss w (pc + 2) (x0 :: x1 :: x2 :: x3 :: x4 :: some (.int v) :: t) st) : J E Y N cs ss w pc (x0 :: x1 :: x2 :: x3 :: x4 :: x5 :: t) (.int v :: st) := fun H locs ls hI hl => lv_istore C.1 C.2.1 hd hl.has (by rw [C.2.2.2.1]; exact hn) rfl (fun ls2 h2 => k H locs ls2 hI (lvH.st1 h2 (fun u _ hu => okS.cat ho (Option.some.inj hu))))
theorem J_iinc_5 (C : Cx E Y cc nL own Ts R) {x0 x1 x2 x3 x4 : Option Value} {t : List (Option Value)} {v : Int32} {n : Int} (d : Int32) (hd : decode cc pc = .ok (.iinc 5 n, 3)) (hn : 5 < nL) (ho : okS x4) (he : Int32.ofInt n = d) (k : J E Y N cs ss w (pc + 3) (x0 :: x1 :: x2 :: x3 :: x4 :: some (.int (v + d)) :: t) st) : J E Y N cs ss w pc (x0 :: x1 :: x2 :: x3 :: x4 :: some (.int v) :: t) st := fun H locs ls hI hl => by
  obtain ⟨q, hq⟩ := List.getElem?_of_mem ((lvL_mem (x0 :: x1 :: x2 :: x3 :: x4 :: some (.int v) :: t) 0 5 (.int v)).mpr ⟨Nat.zero_le _, rfl⟩)
  exact lv_iinc C.1 C.2.1 hd hl.has (k := q) hq (by rw [he]) (by rw [C.2.2.2.1]; exact hn) rfl (fun ls2 h2 => k H locs ls2 hI (lvH.st1 h2 (fun u _ hu => okS.cat ho (Option.some.inj hu))))
theorem J_iload_6 (C : Cx E Y cc nL own Ts R) {x0 x1 x2 x3 x4 x5 : Option Value} {t : List (Option Value)} {v : Int32} (hd : decode cc pc = .ok (.iload 6, 2)) (k : J E Y N cs ss w (pc + 2) (x0 :: x1 :: x2 :: x3 :: x4 :: x5 :: some (.int v) :: t) (.int v :: st)) : J E Y N cs ss w pc (x0 :: x1 :: x2 :: x3 :: x4 :: x5 :: some (.int v) :: t) st := fun H locs ls hI hl => lv_iload C.1 C.2.1 hd (hl.2.2 6 _ rfl) (k H locs ls hI hl)
theorem J_istore_6 (C : Cx E Y cc nL own Ts R) {x0 x1 x2 x3 x4 x5 : Option Value} {x6 : Option Value} {t : List (Option Value)} {v : Int32} (hd : decode cc pc = .ok (.istore 6, 2)) (hn : 6 < nL) (ho : okS x5) (k : J E Y N cs ss w (pc + 2) (x0 :: x1 :: x2 :: x3 :: x4 :: x5 :: some (.int v) :: t) st) : J E Y N cs ss w pc (x0 :: x1 :: x2 :: x3 :: x4 :: x5 :: x6 :: t) (.int v :: st) := fun H locs ls hI hl => lv_istore C.1 C.2.1 hd hl.has (by rw [C.2.2.2.1]; exact hn) rfl (fun ls2 h2 => k H locs ls2 hI (lvH.st1 h2 (fun u _ hu => okS.cat ho (Option.some.inj hu))))
theorem J_iinc_6 (C : Cx E Y cc nL own Ts R) {x0 x1 x2 x3 x4 x5 : Option Value} {t : List (Option Value)} {v : Int32} {n : Int} (d : Int32) (hd : decode cc pc = .ok (.iinc 6 n, 3)) (hn : 6 < nL) (ho : okS x5) (he : Int32.ofInt n = d) (k : J E Y N cs ss w (pc + 3) (x0 :: x1 :: x2 :: x3 :: x4 :: x5 :: some (.int (v + d)) :: t) st) : J E Y N cs ss w pc (x0 :: x1 :: x2 :: x3 :: x4 :: x5 :: some (.int v) :: t) st := fun H locs ls hI hl => by
  obtain ⟨q, hq⟩ := List.getElem?_of_mem ((lvL_mem (x0 :: x1 :: x2 :: x3 :: x4 :: x5 :: some (.int v) :: t) 0 6 (.int v)).mpr ⟨Nat.zero_le _, rfl⟩)
  exact lv_iinc C.1 C.2.1 hd hl.has (k := q) hq (by rw [he]) (by rw [C.2.2.2.1]; exact hn) rfl (fun ls2 h2 => k H locs ls2 hI (lvH.st1 h2 (fun u _ hu => okS.cat ho (Option.some.inj hu))))
theorem J_iload_7 (C : Cx E Y cc nL own Ts R) {x0 x1 x2 x3 x4 x5 x6 : Option Value} {t : List (Option Value)} {v : Int32} (hd : decode cc pc = .ok (.iload 7, 2)) (k : J E Y N cs ss w (pc + 2) (x0 :: x1 :: x2 :: x3 :: x4 :: x5 :: x6 :: some (.int v) :: t) (.int v :: st)) : J E Y N cs ss w pc (x0 :: x1 :: x2 :: x3 :: x4 :: x5 :: x6 :: some (.int v) :: t) st := fun H locs ls hI hl => lv_iload C.1 C.2.1 hd (hl.2.2 7 _ rfl) (k H locs ls hI hl)
theorem J_istore_7 (C : Cx E Y cc nL own Ts R) {x0 x1 x2 x3 x4 x5 x6 : Option Value} {x7 : Option Value} {t : List (Option Value)} {v : Int32} (hd : decode cc pc = .ok (.istore 7, 2)) (hn : 7 < nL) (ho : okS x6) (k : J E Y N cs ss w (pc + 2) (x0 :: x1 :: x2 :: x3 :: x4 :: x5 :: x6 :: some (.int v) :: t) st) : J E Y N cs ss w pc (x0 :: x1 :: x2 :: x3 :: x4 :: x5 :: x6 :: x7 :: t) (.int v :: st) := fun H locs ls hI hl => lv_istore C.1 C.2.1 hd hl.has (by rw [C.2.2.2.1]; exact hn) rfl (fun ls2 h2 => k H locs ls2 hI (lvH.st1 h2 (fun u _ hu => okS.cat ho (Option.some.inj hu))))
theorem J_iinc_7 (C : Cx E Y cc nL own Ts R) {x0 x1 x2 x3 x4 x5 x6 : Option Value} {t : List (Option Value)} {v : Int32} {n : Int} (d : Int32) (hd : decode cc pc = .ok (.iinc 7 n, 3)) (hn : 7 < nL) (ho : okS x6) (he : Int32.ofInt n = d) (k : J E Y N cs ss w (pc + 3) (x0 :: x1 :: x2 :: x3 :: x4 :: x5 :: x6 :: some (.int (v + d)) :: t) st) : J E Y N cs ss w pc (x0 :: x1 :: x2 :: x3 :: x4 :: x5 :: x6 :: some (.int v) :: t) st := fun H locs ls hI hl => by
  obtain ⟨q, hq⟩ := List.getElem?_of_mem ((lvL_mem (x0 :: x1 :: x2 :: x3 :: x4 :: x5 :: x6 :: some (.int v) :: t) 0 7 (.int v)).mpr ⟨Nat.zero_le _, rfl⟩)
  exact lv_iinc C.1 C.2.1 hd hl.has (k := q) hq (by rw [he]) (by rw [C.2.2.2.1]; exact hn) rfl (fun ls2 h2 => k H locs ls2 hI (lvH.st1 h2 (fun u _ hu => okS.cat ho (Option.some.inj hu))))
theorem J_iload_8 (C : Cx E Y cc nL own Ts R) {x0 x1 x2 x3 x4 x5 x6 x7 : Option Value} {t : List (Option Value)} {v : Int32} (hd : decode cc pc = .ok (.iload 8, 2)) (k : J E Y N cs ss w (pc + 2) (x0 :: x1 :: x2 :: x3 :: x4 :: x5 :: x6 :: x7 :: some (.int v) :: t) (.int v :: st)) : J E Y N cs ss w pc (x0 :: x1 :: x2 :: x3 :: x4 :: x5 :: x6 :: x7 :: some (.int v) :: t) st := fun H locs ls hI hl => lv_iload C.1 C.2.1 hd (hl.2.2 8 _ rfl) (k H locs ls hI hl)
theorem J_istore_8 (C : Cx E Y cc nL own Ts R) {x0 x1 x2 x3 x4 x5 x6 x7 : Option Value} {x8 : Option Value} {t : List (Option Value)} {v : Int32} (hd : decode cc pc = .ok (.istore 8, 2)) (hn : 8 < nL) (ho : okS x7) (k : J E Y N cs ss w (pc + 2) (x0 :: x1 :: x2 :: x3 :: x4 :: x5 :: x6 :: x7 :: some (.int v) :: t) st) : J E Y N cs ss w pc (x0 :: x1 :: x2 :: x3 :: x4 :: x5 :: x6 :: x7 :: x8 :: t) (.int v :: st) := fun H locs ls hI hl => lv_istore C.1 C.2.1 hd hl.has (by rw [C.2.2.2.1]; exact hn) rfl (fun ls2 h2 => k H locs ls2 hI (lvH.st1 h2 (fun u _ hu => okS.cat ho (Option.some.inj hu))))
theorem J_iinc_8 (C : Cx E Y cc nL own Ts R) {x0 x1 x2 x3 x4 x5 x6 x7 : Option Value} {t : List (Option Value)} {v : Int32} {n : Int} (d : Int32) (hd : decode cc pc = .ok (.iinc 8 n, 3)) (hn : 8 < nL) (ho : okS x7) (he : Int32.ofInt n = d) (k : J E Y N cs ss w (pc + 3) (x0 :: x1 :: x2 :: x3 :: x4 :: x5 :: x6 :: x7 :: some (.int (v + d)) :: t) st) : J E Y N cs ss w pc (x0 :: x1 :: x2 :: x3 :: x4 :: x5 :: x6 :: x7 :: some (.int v) :: t) st := fun H locs ls hI hl => by
  obtain ⟨q, hq⟩ := List.getElem?_of_mem ((lvL_mem (x0 :: x1 :: x2 :: x3 :: x4 :: x5 :: x6 :: x7 :: some (.int v) :: t) 0 8 (.int v)).mpr ⟨Nat.zero_le _, rfl⟩)
  exact lv_iinc C.1 C.2.1 hd hl.has (k := q) hq (by rw [he]) (by rw [C.2.2.2.1]; exact hn) rfl (fun ls2 h2 => k H locs ls2 hI (lvH.st1 h2 (fun u _ hu => okS.cat ho (Option.some.inj hu))))
theorem J_iload_9 (C : Cx E Y cc nL own Ts R) {x0 x1 x2 x3 x4 x5 x6 x7 x8 : Option Value} {t : List (Option Value)} {v : Int32} (hd : decode cc pc = .ok (.iload 9, 2)) (k : J E Y N cs ss w (pc + 2) (x0 :: x1 :: x2 :: x3 :: x4 :: x5 :: x6 :: x7 :: x8 :: some (.int v) :: t) (.int v :: st)) : J E Y N cs ss w pc (x0 :: x1 :: x2 :: x3 :: x4 :: x5 :: x6 :: x7 :: x8 :: some (.int v) :: t) st := fun H locs ls hI hl => lv_iload C.1 C.2.1 hd (hl.2.2 9 _ rfl) (k H locs ls hI hl)
theorem J_istore_9 (C : Cx E Y cc nL own Ts R) {x0 x1 x2 x3 x4 x5 x6 x7 x8 : Option Value} {x9 : Option Value} {t : List (Option Value)} {v : Int32} (hd : decode cc pc = .ok (.istore 9, 2)) (hn : 9 < nL) (ho : okS x8) (k : J E Y N cs ss w (pc + 2) (x0 :: x1 :: x2 :: x3 :: x4 :: x5 :: x6 :: x7 :: x8 :: some (.int v) :: t) st) : J E Y N cs ss w pc (x0 :: x1 :: x2 :: x3 :: x4 :: x5 :: x6 :: x7 :: x8 :: x9 :: t) (.int v :: st) := fun H locs ls hI hl => lv_istore C.1 C.2.1 hd hl.has (by rw [C.2.2.2.1]; exact hn) rfl (fun ls2 h2 => k H locs ls2 hI (lvH.st1 h2 (fun u _ hu => okS.cat ho (Option.some.inj hu))))
theorem J_iinc_9 (C : Cx E Y cc nL own Ts R) {x0 x1 x2 x3 x4 x5 x6 x7 x8 : Option Value} {t : List (Option Value)} {v : Int32} {n : Int} (d : Int32) (hd : decode cc pc = .ok (.iinc 9 n, 3)) (hn : 9 < nL) (ho : okS x8) (he : Int32.ofInt n = d) (k : J E Y N cs ss w (pc + 3) (x0 :: x1 :: x2 :: x3 :: x4 :: x5 :: x6 :: x7 :: x8 :: some (.int (v + d)) :: t) st) : J E Y N cs ss w pc (x0 :: x1 :: x2 :: x3 :: x4 :: x5 :: x6 :: x7 :: x8 :: some (.int v) :: t) st := fun H locs ls hI hl => by
  obtain ⟨q, hq⟩ := List.getElem?_of_mem ((lvL_mem (x0 :: x1 :: x2 :: x3 :: x4 :: x5 :: x6 :: x7 :: x8 :: some (.int v) :: t) 0 9 (.int v)).mpr ⟨Nat.zero_le _, rfl⟩)
  exact lv_iinc C.1 C.2.1 hd hl.has (k := q) hq (by rw [he]) (by rw [C.2.2.2.1]; exact hn) rfl (fun ls2 h2 => k H locs ls2 hI (lvH.st1 h2 (fun u _ hu => okS.cat ho (Option.some.inj hu))))
theorem J_iload_10 (C : Cx E Y cc nL own Ts R) {x0 x1 x2 x3 x4 x5 x6 x7 x8 x9 : Option Value} {t : List (Option Value)} {v : Int32} (hd : decode cc pc = .ok (.iload 10, 2)) (k : J E Y N cs ss w (pc + 2) (x0 :: x1 :: x2 :: x3 :: x4 :: x5 :: x6 :: x7 :: x8 :: x9 :: some (.int v) :: t) (.int v :: st)) : J E Y N cs ss w pc (x0 :: x1 :: x2 :: x3 :: x4 :: x5 :: x6 :: x7 :: x8 :: x9 :: some (.int v) :: t) st := fun H locs ls hI hl => lv_iload C.1 C.2.1 hd (hl.2.2 10 _ rfl) (k H locs ls hI hl)
theorem J_istore_10 (C : Cx E Y cc nL own Ts R) {x0 x1 x2 x3 x4 x5 x6 x7 x8 x9 : Option Value} {x10 : Option Value} {t : List (Option Value)} {v : Int32} (hd : decode cc pc = .ok (.istore 10, 2)) (hn : 10 < nL) (ho : okS x9) (k : J E Y N cs ss w (pc + 2) (x0 :: x1 :: x2 :: x3 :: x4 :: x5 :: x6 :: x7 :: x8 :: x9 :: some (.int v) :: t) st) : J E Y N cs ss w pc (x0 :: x1 :: x2 :: x3 :: x4 :: x5 :: x6 :: x7 :: x8 :: x9 :: x10 :: t) (.int v :: st) := fun H locs ls hI hl => lv_istore C.1 C.2.1 hd hl.has (by rw [C.2.2.2.1]; exact hn) rfl (fun ls2 h2 => k H locs ls2 hI (lvH.st1 h2 (fun u _ hu => okS.cat ho (Option.some.inj hu))))
theorem J_iinc_10 (C : Cx E Y cc nL own Ts R) {x0 x1 x2 x3 x4 x5 x6 x7 x8 x9 : Option Value} {t : List (Option Value)} {v : Int32} {n : Int} (d : Int32) (hd : decode cc pc = .ok (.iinc 10 n, 3)) (hn : 10 < nL) (ho : okS x9) (he : Int32.ofInt n = d) (k : J E Y N cs ss w (pc + 3) (x0 :: x1 :: x2 :: x3 :: x4 :: x5 :: x6 :: x7 :: x8 :: x9 :: some (.int (v + d)) :: t) st) : J E Y N cs ss w pc (x0 :: x1 :: x2 :: x3 :: x4 :: x5 :: x6 :: x7 :: x8 :: x9 :: some (.int v) :: t) st := fun H locs ls hI hl => by
  obtain ⟨q, hq⟩ := List.getElem?_of_mem ((lvL_mem (x0 :: x1 :: x2 :: x3 :: x4 :: x5 :: x6 :: x7 :: x8 :: x9 :: some (.int v) :: t) 0 10 (.int v)).mpr ⟨Nat.zero_le _, rfl⟩)
  exact lv_iinc C.1 C.2.1 hd hl.has (k := q) hq (by rw [he]) (by rw [C.2.2.2.1]; exact hn) rfl (fun ls2 h2 => k H locs ls2 hI (lvH.st1 h2 (fun u _ hu => okS.cat ho (Option.some.inj hu))))
theorem J_iload_11 (C : Cx E Y cc nL own Ts R) {x0 x1 x2 x3 x4 x5 x6 x7 x8 x9 x10 : Option Value} {t : List (Option Value)} {v : Int32} (hd : decode cc pc = .ok (.iload 11, 2)) (k : J E Y N cs ss w (pc + 2) (x0 :: x1 :: x2 :: x3 :: x4 :: x5 :: x6 :: x7 :: x8 :: x9 :: x10 :: some (.int v) :: t) (.int v :: st)) : J E Y N cs ss w pc (x0 :: x1 :: x2 :: x3 :: x4 :: x5 :: x6 :: x7 :: x8 :: x9 :: x10 :: some (.int v) :: t) st := fun H locs ls hI hl => lv_iload C.1 C.2.1 hd (hl.2.2 11 _ rfl) (k H locs ls hI hl)
theorem J_istore_11 (C : Cx E Y cc nL own Ts R) {x0 x1 x2 x3 x4 x5 x6 x7 x8 x9 x10 : Option Value} {x11 : Option Value} {t : List (Option Value)} {v : Int32} (hd : decode cc pc = .ok (.istore 11, 2)) (hn : 11 < nL) (ho : okS x10) (k : J E Y N cs ss w (pc + 2) (x0 :: x1 :: x2 :: x3 :: x4 :: x5 :: x6 :: x7 :: x8 :: x9 :: x10 :: some (.int v) :: t) st) : J E Y N cs ss w pc (x0 :: x1 :: x2 :: x3 :: x4 :: x5 :: x6 :: x7 :: x8 :: x9 :: x10 :: x11 :: t) (.int v :: st) := fun H locs ls hI hl => lv_istore C.1 C.2.1 hd hl.has (by rw [C.2.2.2.1]; exact hn) rfl (fun ls2 h2 => k H locs ls2 hI (lvH.st1 h2 (fun u _ hu => okS.cat ho (Option.some.inj hu))))
theorem J_iinc_11 (C : Cx E Y cc nL own Ts R) {x0 x1 x2 x3 x4 x5 x6 x7 x8 x9 x10 : Option Value} {t : List (Option Value)} {v : Int32} {n : Int} (d : Int32) (hd : decode cc pc = .ok (.iinc 11 n, 3)) (hn : 11 < nL) (ho : okS x10) (he : Int32.ofInt n = d) (k : J E Y N cs ss w (pc + 3) (x0 :: x1 :: x2 :: x3 :: x4 :: x5 :: x6 :: x7 :: x8 :: x9 :: x10 :: some (.int (v + d)) :: t) st) : J E Y N cs ss w pc (x0 :: x1 :: x2 :: x3 :: x4 :: x5 :: x6 :: x7 :: x8 :: x9 :: x10 :: some (.int v) :: t) st := fun H locs ls hI hl => by
  obtain ⟨q, hq⟩ := List.getElem?_of_mem ((lvL_mem (x0 :: x1 :: x2 :: x3 :: x4 :: x5 :: x6 :: x7 :: x8 :: x9 :: x10 :: some (.int v) :: t) 0 11 (.int v)).mpr ⟨Nat.zero_le _, rfl⟩)
  exact lv_iinc C.1 C.2.1 hd hl.has (k := q) hq (by rw [he]) (by rw [C.2.2.2.1]; exact hn) rfl (fun ls2 h2 => k H locs ls2 hI (lvH.st1 h2 (fun u _ hu => okS.cat ho (Option.some.inj hu))))
theorem J_iload_12 (C : Cx E Y cc nL own Ts R) {x0 x1 x2 x3 x4 x5 x6 x7 x8 x9 x10 x11 : Option Value} {t : List (Option Value)} {v : Int32} (hd : decode cc pc = .ok (.iload 12, 2)) (k : J E Y N cs ss w (pc + 2) (x0 :: x1 :: x2 :: x3 :: x4 :: x5 :: x6 :: x7 :: x8 :: x9 :: x10 :: x11 :: some (.int v) :: t) (.int v :: st)) : J E Y N cs ss w pc (x0 :: x1 :: x2 :: x3 :: x4 :: x5 :: x6 :: x7 :: x8 :: x9 :: x10 :: x11 :: some (.int v) :: t) st := fun H locs ls hI hl => lv_iload C.1 C.2.1 hd (hl.2.2 12 _ rfl) (k H locs ls hI hl)
theorem J_istore_12 (C : Cx E Y cc nL own Ts R) {x0 x1 x2 x3 x4 x5 x6 x7 x8 x9 x10 x11 : Option Value} {x12 : Option Value} {t : List (Option Value)} {v : Int32} (hd : decode cc pc = .ok (.istore 12, 2)) (hn : 12 < nL) (ho : okS x11) (k : J E Y N cs ss w (pc + 2) (x0 :: x1 :: x2 :: x3 :: x4 :: x5 :: x6 :: x7 :: x8 :: x9 :: x10 :: x11 :: some (.int v) :: t) st) : J E Y N cs ss w pc (x0 :: x1 :: x2 :: x3 :: x4 :: x5 :: x6 :: x7 :: x8 :: x9 :: x10 :: x11 :: x12 :: t) (.int v :: st) := fun H locs ls hI hl => lv_istore C.1 C.2.1 hd hl.has (by rw [C.2.2.2.1]; exact hn) rfl (fun ls2 h2 => k H locs ls2 hI (lvH.st1 h2 (fun u _ hu => okS.cat ho (Option.some.inj hu))))
theorem J_iinc_12 (C : Cx E Y cc nL own Ts R) {x0 x1 x2 x3 x4 x5 x6 x7 x8 x9 x10 x11 : Option Value} {t : List (Option Value)} {v : Int32} {n : Int} (d : Int32) (hd : decode cc pc = .ok (.iinc 12 n, 3)) (hn : 12 < nL) (ho : okS x11) (he : Int32.ofInt n = d) (k : J E Y N cs ss w (pc + 3) (x0 :: x1 :: x2 :: x3 :: x4 :: x5 :: x6 :: x7 :: x8 :: x9 :: x10 :: x11 :: some (.int (v + d)) :: t) st) : J E Y N cs ss w pc (x0 :: x1 :: x2 :: x3 :: x4 :: x5 :: x6 :: x7 :: x8 :: x9 :: x10 :: x11 :: some (.int v) :: t) st := fun H locs ls hI hl => by
  obtain ⟨q, hq⟩ := List.getElem?_of_mem ((lvL_mem (x0 :: x1 :: x2 :: x3 :: x4 :: x5 :: x6 :: x7 :: x8 :: x9 :: x10 :: x11 :: some (.int v) :: t) 0 12 (.int v)).mpr ⟨Nat.zero_le _, rfl⟩)
  exact lv_iinc C.1 C.2.1 hd hl.has (k := q) hq (by rw [he]) (by rw [C.2.2.2.1]; exact hn) rfl (fun ls2 h2 => k H locs ls2 hI (lvH.st1 h2 (fun u _ hu => okS.cat ho (Option.some.inj hu))))
theorem J_iload_13 (C : Cx E Y cc nL own Ts R) {x0 x1 x2 x3 x4 x5 x6 x7 x8 x9 x10 x11 x12 : Option Value} {t : List (Option Value)} {v : Int32} (hd : decode cc pc = .ok (.iload 13, 2)) (k : J E Y N cs ss w (pc + 2) (x0 :: x1 :: x2 :: x3 :: x4 :: x5 :: x6 :: x7 :: x8 :: x9 :: x10 :: x11 :: x12 :: some (.int v) :: t) (.int v :: st)) : J E Y N cs ss w pc (x0 :: x1 :: x2 :: x3 :: x4 :: x5 :: x6 :: x7 :: x8 :: x9 :: x10 :: x11 :: x12 :: some (.int v) :: t) st := fun H locs ls hI hl => lv_iload C.1 C.2.1 hd (hl.2.2 13 _ rfl) (k H locs ls hI hl)
theorem J_istore_13 (C : Cx E Y cc nL own Ts R) {x0 x1 x2 x3 x4 x5 x6 x7 x8 x9 x10 x11 x12 : Option Value} {x13 : Option Value} {t : List (Option Value)} {v : Int32} (hd : decode cc pc = .ok (.istore 13, 2)) (hn : 13 < nL) (ho : okS x12) (k : J E Y N cs ss w (pc + 2) (x0 :: x1 :: x2 :: x3 :: x4 :: x5 :: x6 :: x7 :: x8 :: x9 :: x10 :: x11 :: x12 :: some (.int v) :: t) st) : J E Y N cs ss w pc (x0 :: x1 :: x2 :: x3 :: x4 :: x5 :: x6 :: x7 :: x8 :: x9 :: x10 :: x11 :: x12 :: x13 :: t) (.int v :: st) := fun H locs ls hI hl => lv_istore C.1 C.2.1 hd hl.has (by rw [C.2.2.2.1]; exact hn) rfl (fun ls2 h2 => k H locs ls2 hI (lvH.st1 h2 (fun u _ hu => okS.cat ho (Option.some.inj hu))))
theorem J_iinc_13 (C : Cx E Y cc nL own Ts R) {x0 x1 x2 x3 x4 x5 x6 x7 x8 x9 x10 x11 x12 : Option Value} {t : List (Option Value)} {v : Int32} {n : Int} (d : Int32) (hd : decode cc pc = .ok (.iinc 13 n, 3)) (hn : 13 < nL) (ho : okS x12) (he : Int32.ofInt n = d) (k : J E Y N cs ss w (pc + 3) (x0 :: x1 :: x2 :: x3 :: x4 :: x5 :: x6 :: x7 :: x8 :: x9 :: x10 :: x11 :: x12 :: some (.int (v + d)) :: t) st) : J E Y N cs ss w pc (x0 :: x1 :: x2 :: x3 :: x4 :: x5 :: x6 :: x7 :: x8 :: x9 :: x10 :: x11 :: x12 :: some (.int v) :: t) st := fun H locs ls hI hl => by
  obtain ⟨q, hq⟩ := List.getElem?_of_mem ((lvL_mem (x0 :: x1 :: x2 :: x3 :: x4 :: x5 :: x6 :: x7 :: x8 :: x9 :: x10 :: x11 :: x12 :: some (.int v) :: t) 0 13 (.int v)).mpr ⟨Nat.zero_le _, rfl⟩)
  exact lv_iinc C.1 C.2.1 hd hl.has (k := q) hq (by rw [he]) (by rw [C.2.2.2.1]; exact hn) rfl (fun ls2 h2 => k H locs ls2 hI (lvH.st1 h2 (fun u _ hu => okS.cat ho (Option.some.inj hu))))
theorem J_lload_0 (C : Cx E Y cc nL own Ts R) {t : List (Option Value)} {v : Int64} (hd : decode cc pc = .ok (.lload_n 0, 1)) (k : J E Y N cs ss w (pc + 1) (some (.long v) :: t) (.long v :: st)) : J E Y N cs ss w pc (some (.long v) :: t) st := fun H locs ls hI hl => lv_lload_n C.1 C.2.1 hd rfl (hl.2.2 0 _ rfl) (k H locs ls hI hl)
theorem J_lstore_0 (C : Cx E Y cc nL own Ts R) {x0 x1 : Option Value} {t : List (Option Value)} {v : Int64} (hd : decode cc pc = .ok (.lstore_n 0, 1)) (hn : 0 + 1 < nL) (k : J E Y N cs ss w (pc + 1) (some (.long v) :: none :: t) st) : J E Y N cs ss w pc (x0 :: x1 :: t) (.long v :: st) := fun H locs ls hI hl => lv_lstore_n C.1 C.2.1 hd rfl hl.has (by rw [C.2.2.2.1]; exact hn) rfl (fun ls2 h2 => k H locs ls2 hI (lvH.st2 h2 (fun u h0 _ => absurd rfl h0)))
theorem J_lload_1 (C : Cx E Y cc nL own Ts R) {x0 : Option Value} {t : List (Option Value)} {v : Int64} (hd : decode cc pc = .ok (.lload_n 1, 1)) (k : J E Y N cs ss w (pc + 1) (x0 :: some (.long v) :: t) (.long v :: st)) : J E Y N cs ss w pc (x0 :: some (.long v) :: t) st := fun H locs ls hI hl => lv_lload_n C.1 C.2.1 hd rfl (hl.2.2 1 _ rfl) (k H locs ls hI hl)
theorem J_lstore_1 (C : Cx E Y cc nL own Ts R) {x0 : Option Value} {x1 x2 : Option Value} {t : List (Option Value)} {v : Int64} (hd : decode cc pc = .ok (.lstore_n 1, 1)) (hn : 1 + 1 < nL) (ho : okS x0) (k : J E Y N cs ss w (pc + 1) (x0 :: some (.long v) :: none :: t) st) : J E Y N cs ss w pc (x0 :: x1 :: x2 :: t) (.long v :: st) := fun H locs ls hI hl => lv_lstore_n C.1 C.2.1 hd rfl hl.has (by rw [C.2.2.2.1]; exact hn) rfl (fun ls2 h2 => k H locs ls2 hI (lvH.st2 h2 (fun u _ hu => okS.cat ho (Option.some.inj hu))))
theorem J_lload_2 (C : Cx E Y cc nL own Ts R) {x0 x1 : Option Value} {t : List (Option Value)} {v : Int64} (hd : decode cc pc = .ok (.lload_n 2, 1)) (k : J E Y N cs ss w (pc + 1) (x0 :: x1 :: some (.long v) :: t) (.long v :: st)) : J E Y N cs ss w pc (x0 :: x1 :: some (.long v) :: t) st := fun H locs ls hI hl => lv_lload_n C.1 C.2.1 hd rfl (hl.2.2 2 _ rfl) (k H locs ls hI hl)
theorem J_lstore_2 (C : Cx E Y cc nL own Ts R) {x0 x1 : Option Value} {x2 x3 : Option Value} {t : List (Option Value)} {v : Int64} (hd : decode cc pc = .ok (.lstore_n 2, 1)) (hn : 2 + 1 < nL) (ho : okS x1) (k : J E Y N cs ss w (pc + 1) (x0 :: x1 :: some (.long v) :: none :: t) st) : J E Y N cs ss w pc (x0 :: x1 :: x2 :: x3 :: t) (.long v :: st) := fun H locs ls hI hl => lv_lstore_n C.1 C.2.1 hd rfl hl.has (by rw [C.2.2.2.1]; exact hn) rfl (fun ls2 h2 => k H locs ls2 hI (lvH.st2 h2 (fun u _ hu => okS.cat ho (Option.some.inj hu))))
theorem J_lload_3 (C : Cx E Y cc nL own Ts R) {x0 x1 x2 : Option Value} {t : List (Option Value)} {v : Int64} (hd : decode cc pc = .ok (.lload_n 3, 1)) (k : J E Y N cs ss w (pc + 1) (x0 :: x1 :: x2 :: some (.long v) :: t) (.long v :: st)) : J E Y N cs ss w pc (x0 :: x1 :: x2 :: some (.long v) :: t) st := fun H locs ls hI hl => lv_lload_n C.1 C.2.1 hd rfl (hl.2.2 3 _ rfl) (k H locs ls hI hl)
theorem J_lstore_3 (C : Cx E Y cc nL own Ts R) {x0 x1 x2 : Option Value} {x3 x4 : Option Value} {t : List (Option Value)} {v : Int64} (hd : decode cc pc = .ok (.lstore_n 3, 1)) (hn : 3 + 1 < nL) (ho : okS x2) (k : J E Y N cs ss w (pc + 1) (x0 :: x1 :: x2 :: some (.long v) :: none :: t) st) : J E Y N cs ss w pc (x0 :: x1 :: x2 :: x3 :: x4 :: t) (.long v :: st) := fun H locs ls hI hl => lv_lstore_n C.1 C.2.1 hd rfl hl.has (by rw [C.2.2.2.1]; exact hn) rfl (fun ls2 h2 => k H locs ls2 hI (lvH.st2 h2 (fun u _ hu => okS.cat ho (Option.some.inj hu))))
theorem J_lload_4 (C : Cx E Y cc nL own Ts R) {x0 x1 x2 x3 : Option Value} {t : List (Option Value)} {v : Int64} (hd : decode cc pc = .ok (.lload 4, 2)) (k : J E Y N cs ss w (pc + 2) (x0 :: x1 :: x2 :: x3 :: some (.long v) :: t) (.long v :: st)) : J E Y N cs ss w pc (x0 :: x1 :: x2 :: x3 :: some (.long v) :: t) st := fun H locs ls hI hl => lv_lload C.1 C.2.1 hd (hl.2.2 4 _ rfl) (k H locs ls hI hl)
theorem J_lstore_4 (C : Cx E Y cc nL own Ts R) {x0 x1 x2 x3 : Option Value} {x4 x5 : Option Value} {t : List (Option Value)} {v : Int64} (hd : decode cc pc = .ok (.lstore 4, 2)) (hn : 4 + 1 < nL) (ho : okS x3) (k : J E Y N cs ss w (pc + 2) (x0 :: x1 :: x2 :: x3 :: some (.long v) :: none :: t) st) : J E Y N cs ss w pc (x0 :: x1 :: x2 :: x3 :: x4 :: x5 :: t) (.long v :: st) := fun H locs ls hI hl => lv_lstore C.1 C.2.1 hd hl.has (by rw [C.2.2.2.1]; exact hn) rfl (fun ls2 h2 => k H locs ls2 hI (lvH.st2 h2 (fun u _ hu => okS.cat ho (Option.some.inj hu))))
theorem J_lload_5 (C : Cx E Y cc nL own Ts R) {x0 x1 x2 x3 x4 : Option Value} {t : List (Option Value)} {v : Int64} (hd : decode cc pc = .ok (.lload 5, 2)) (k : J E Y N cs ss w (pc + 2) (x0 :: x1 :: x2 :: x3 :: x4 :: some (.long v) :: t) (.long v :: st)) : J E Y N cs ss w pc (x0 :: x1 :: x2 :: x3 :: x4 :: some (.long v) :: t) st := fun H locs ls hI hl => lv_lload C.1 C.2.1 hd (hl.2.2 5 _ rfl) (k H locs ls hI hl)
theorem J_lstore_5 (C : Cx E Y cc nL own Ts R) {x0 x1 x2 x3 x4 : Option Value} {x5 x6 : Option Value} {t : List (Option Value)} {v : Int64} (hd : decode cc pc = .ok (.lstore 5, 2)) (hn : 5 + 1 < nL) (ho : okS x4) (k : J E Y N cs ss w (pc + 2) (x0 :: x1 :: x2 :: x3 :: x4 :: some (.long v) :: none :: t) st) : J E Y N cs ss w pc (x0 :: x1 :: x2 :: x3 :: x4 :: x5 :: x6 :: t) (.long v :: st) := fun H locs ls hI hl => lv_lstore C.1 C.2.1 hd hl.has (by rw [C.2.2.2.1]; exact hn) rfl (fun ls2 h2 => k H locs ls2 hI (lvH.st2 h2 (fun u _ hu => okS.cat ho (Option.some.inj hu))))
theorem J_lload_6 (C : Cx E Y cc nL own Ts R) {x0 x1 x2 x3 x4 x5 : Option Value} {t : List (Option Value)} {v : Int64} (hd : decode cc pc = .ok (.lload 6, 2)) (k : J E Y N cs ss w (pc + 2) (x0 :: x1 :: x2 :: x3 :: x4 :: x5 :: some (.long v) :: t) (.long v :: st)) : J E Y N cs ss w pc (x0 :: x1 :: x2 :: x3 :: x4 :: x5 :: some (.long v) :: t) st := fun H locs ls hI hl => lv_lload C.1 C.2.1 hd (hl.2.2 6 _ rfl) (k H locs ls hI hl)
theorem J_lstore_6 (C : Cx E Y cc nL own Ts R) {x0 x1 x2 x3 x4 x5 : Option Value} {x6 x7 : Option Value} {t : List (Option Value)} {v : Int64} (hd : decode cc pc = .ok (.lstore 6, 2)) (hn : 6 + 1 < nL) (ho : okS x5) (k : J E Y N cs ss w (pc + 2) (x0 :: x1 :: x2 :: x3 :: x4 :: x5 :: some (.long v) :: none :: t) st) : J E Y N cs ss w pc (x0 :: x1 :: x2 :: x3 :: x4 :: x5 :: x6 :: x7 :: t) (.long v :: st) := fun H locs ls hI hl => lv_lstore C.1 C.2.1 hd hl.has (by rw [C.2.2.2.1]; exact hn) rfl (fun ls2 h2 => k H locs ls2 hI (lvH.st2 h2 (fun u _ hu => okS.cat ho (Option.some.inj hu))))
theorem J_lload_7 (C : Cx E Y cc nL own Ts R) {x0 x1 x2 x3 x4 x5 x6 : Option Value} {t : List (Option Value)} {v : Int64} (hd : decode cc pc = .ok (.lload 7, 2)) (k : J E Y N cs ss w (pc + 2) (x0 :: x1 :: x2 :: x3 :: x4 :: x5 :: x6 :: some (.long v) :: t) (.long v :: st)) : J E Y N cs ss w pc (x0 :: x1 :: x2 :: x3 :: x4 :: x5 :: x6 :: some (.long v) :: t) st := fun H locs ls hI hl => lv_lload C.1 C.2.1 hd (hl.2.2 7 _ rfl) (k H locs ls hI hl)
theorem J_lstore_7 (C : Cx E Y cc nL own Ts R) {x0 x1 x2 x3 x4 x5 x6 : Option Value} {x7 x8 : Option Value} {t : List (Option Value)} {v : Int64} (hd : decode cc pc = .ok (.lstore 7, 2)) (hn : 7 + 1 < nL) (ho : okS x6) (k : J E Y N cs ss w (pc + 2) (x0 :: x1 :: x2 :: x3 :: x4 :: x5 :: x6 :: some (.long v) :: none :: t) st) : J E Y N cs ss w pc (x0 :: x1 :: x2 :: x3 :: x4 :: x5 :: x6 :: x7 :: x8 :: t) (.long v :: st) := fun H locs ls hI hl => lv_lstore C.1 C.2.1 hd hl.has (by rw [C.2.2.2.1]; exact hn) rfl (fun ls2 h2 => k H locs ls2 hI (lvH.st2 h2 (fun u _ hu => okS.cat ho (Option.some.inj hu))))
theorem J_lload_8 (C : Cx E Y cc nL own Ts R) {x0 x1 x2 x3 x4 x5 x6 x7 : Option Value} {t : List (Option Value)} {v : Int64} (hd : decode cc pc = .ok (.lload 8, 2)) (k : J E Y N cs ss w (pc + 2) (x0 :: x1 :: x2 :: x3 :: x4 :: x5 :: x6 :: x7 :: some (.long v) :: t) (.long v :: st)) : J E Y N cs ss w pc (x0 :: x1 :: x2 :: x3 :: x4 :: x5 :: x6 :: x7 :: some (.long v) :: t) st := fun H locs ls hI hl => lv_lload C.1 C.2.1 hd (hl.2.2 8 _ rfl) (k H locs ls hI hl)
theorem J_lstore_8 (C : Cx E Y cc nL own Ts R) {x0 x1 x2 x3 x4 x5 x6 x7 : Option Value} {x8 x9 : Option Value} {t : List (Option Value)} {v : Int64} (hd : decode cc pc = .ok (.lstore 8, 2)) (hn : 8 + 1 < nL) (ho : okS x7) (k : J E Y N cs ss w (pc + 2) (x0 :: x1 :: x2 :: x3 :: x4 :: x5 :: x6 :: x7 :: some (.long v) :: none :: t) st) : J E Y N cs ss w pc (x0 :: x1 :: x2 :: x3 :: x4 :: x5 :: x6 :: x7 :: x8 :: x9 :: t) (.long v :: st) := fun H locs ls hI hl => lv_lstore C.1 C.2.1 hd hl.has (by rw [C.2.2.2.1]; exact hn) rfl (fun ls2 h2 => k H locs ls2 hI (lvH.st2 h2 (fun u _ hu => okS.cat ho (Option.some.inj hu))))
theorem J_lload_9 (C : Cx E Y cc nL own Ts R) {x0 x1 x2 x3 x4 x5 x6 x7 x8 : Option Value} {t : List (Option Value)} {v : Int64} (hd : decode cc pc = .ok (.lload 9, 2)) (k : J E Y N cs ss w (pc + 2) (x0 :: x1 :: x2 :: x3 :: x4 :: x5 :: x6 :: x7 :: x8 :: some (.long v) :: t) (.long v :: st)) : J E Y N cs ss w pc (x0 :: x1 :: x2 :: x3 :: x4 :: x5 :: x6 :: x7 :: x8 :: some (.long v) :: t) st := fun H locs ls hI hl => lv_lload C.1 C.2.1 hd (hl.2.2 9 _ rfl) (k H locs ls hI hl)
theorem J_lstore_9 (C : Cx E Y cc nL own Ts R) {x0 x1 x2 x3 x4 x5 x6 x7 x8 : Option Value} {x9 x10 : Option Value} {t : List (Option Value)} {v : Int64} (hd : decode cc pc = .ok (.lstore 9, 2)) (hn : 9 + 1 < nL) (ho : okS x8) (k : J E Y N cs ss w (pc + 2) (x0 :: x1 :: x2 :: x3 :: x4 :: x5 :: x6 :: x7 :: x8 :: some (.long v) :: none :: t) st) : J E Y N cs ss w pc (x0 :: x1 :: x2 :: x3 :: x4 :: x5 :: x6 :: x7 :: x8 :: x9 :: x10 :: t) (.long v :: st) := fun H locs ls hI hl => lv_lstore C.1 C.2.1 hd hl.has (by rw [C.2.2.2.1]; exact hn) rfl (fun ls2 h2 => k H locs ls2 hI (lvH.st2 h2 (fun u _ hu => okS.cat ho (Option.some.inj hu))))
theorem J_lload_10 (C : Cx E Y cc nL own Ts R) {x0 x1 x2 x3 x4 x5 x6 x7 x8 x9 : Option Value} {t : List (Option Value)} {v : Int64} (hd : decode cc pc = .ok (.lload 10, 2)) (k : J E Y N cs ss w (pc + 2) (x0 :: x1 :: x2 :: x3 :: x4 :: x5 :: x6 :: x7 :: x8 :: x9 :: some (.long v) :: t) (.long v :: st)) : J E Y N cs ss w pc (x0 :: x1 :: x2 :: x3 :: x4 :: x5 :: x6 :: x7 :: x8 :: x9 :: some (.long v) :: t) st := fun H locs ls hI hl => lv_lload C.1 C.2.1 hd (hl.2.2 10 _ rfl) (k H locs ls hI hl)
theorem J_lstore_10 (C : Cx E Y cc nL own Ts R) {x0 x1 x2 x3 x4 x5 x6 x7 x8 x9 : Option Value} {x10 x11 : Option Value} {t : List (Option Value)} {v : Int64} (hd : decode cc pc = .ok (.lstore 10, 2)) (hn : 10 + 1 < nL) (ho : okS x9) (k : J E Y N cs ss w (pc + 2) (x0 :: x1 :: x2 :: x3 :: x4 :: x5 :: x6 :: x7 :: x8 :: x9 :: some (.long v) :: none :: t) st) : J E Y N cs ss w pc (x0 :: x1 :: x2 :: x3 :: x4 :: x5 :: x6 :: x7 :: x8 :: x9 :: x10 :: x11 :: t) (.long v :: st) := fun H locs ls hI hl => lv_lstore C.1 C.2.1 hd hl.has (by rw [C.2.2.2.1]; exact hn) rfl (fun ls2 h2 => k H locs ls2 hI (lvH.st2 h2 (fun u _ hu => okS.cat ho (Option.some.inj hu))))
theorem J_lload_11 (C : Cx E Y cc nL own Ts R) {x0 x1 x2 x3 x4 x5 x6 x7 x8 x9 x10 : Option Value} {t : List (Option Value)} {v : Int64} (hd : decode cc pc = .ok (.lload 11, 2)) (k : J E Y N cs ss w (pc + 2) (x0 :: x1 :: x2 :: x3 :: x4 :: x5 :: x6 :: x7 :: x8 :: x9 :: x10 :: some (.long v) :: t) (.long v :: st)) : J E Y N cs ss w pc (x0 :: x1 :: x2 :: x3 :: x4 :: x5 :: x6 :: x7 :: x8 :: x9 :: x10 :: some (.long v) :: t) st := fun H locs ls hI hl => lv_lload C.1 C.2.1 hd (hl.2.2 11 _ rfl) (k H locs ls hI hl)
theorem J_lstore_11 (C : Cx E Y cc nL own Ts R) {x0 x1 x2 x3 x4 x5 x6 x7 x8 x9 x10 : Option Value} {x11 x12 : Option Value} {t : List (Option Value)} {v : Int64} (hd : decode cc pc = .ok (.lstore 11, 2)) (hn : 11 + 1 < nL) (ho : okS x10) (k : J E Y N cs ss w (pc + 2) (x0 :: x1 :: x2 :: x3 :: x4 :: x5 :: x6 :: x7 :: x8 :: x9 :: x10 :: some (.long v) :: none :: t) st) : J E Y N cs ss w pc (x0 :: x1 :: x2 :: x3 :: x4 :: x5 :: x6 :: x7 :: x8 :: x9 :: x10 :: x11 :: x12 :: t) (.long v :: st) := fun H locs ls hI hl => lv_lstore C.1 C.2.1 hd hl.has (by rw [C.2.2.2.1]; exact hn) rfl (fun ls2 h2 => k H locs ls2 hI (lvH.st2 h2 (fun u _ hu => okS.cat ho (Option.some.inj hu))))
theorem J_lload_12 (C : Cx E Y cc nL own Ts R) {x0 x1 x2 x3 x4 x5 x6 x7 x8 x9 x10 x11 : Option Value} {t : List (Option Value)} {v : Int64} (hd : decode cc pc = .ok (.lload 12, 2)) (k : J E Y N cs ss w (pc + 2) (x0 :: x1 :: x2 :: x3 :: x4 :: x5 :: x6 :: x7 :: x8 :: x9 :: x10 :: x11 :: some (.long v) :: t) (.long v :: st)) : J E Y N cs ss w pc (x0 :: x1 :: x2 :: x3 :: x4 :: x5 :: x6 :: x7 :: x8 :: x9 :: x10 :: x11 :: some (.long v) :: t) st := fun H locs ls hI hl => lv_lload C.1 C.2.1 hd (hl.2.2 12 _ rfl) (k H locs ls hI hl)
theorem J_lstore_12 (C : Cx E Y cc nL own Ts R) {x0 x1 x2 x3 x4 x5 x6 x7 x8 x9 x10 x11 : Option Value} {x12 x13 : Option Value} {t : List (Option Value)} {v : Int64} (hd : decode cc pc = .ok (.lstore 12, 2)) (hn : 12 + 1 < nL) (ho : okS x11) (k : J E Y N cs ss w (pc + 2) (x0 :: x1 :: x2 :: x3 :: x4 :: x5 :: x6 :: x7 :: x8 :: x9 :: x10 :: x11 :: some (.long v) :: none :: t) st) : J E Y N cs ss w pc (x0 :: x1 :: x2 :: x3 :: x4 :: x5 :: x6 :: x7 :: x8 :: x9 :: x10 :: x11 :: x12 :: x13 :: t) (.long v :: st) := fun H locs ls hI hl => lv_lstore C.1 C.2.1 hd hl.has (by rw [C.2.2.2.1]; exact hn) rfl (fun ls2 h2 => k H locs ls2 hI (lvH.st2 h2 (fun u _ hu => okS.cat ho (Option.some.inj hu))))
theorem J_lload_13 (C : Cx E Y cc nL own Ts R) {x0 x1 x2 x3 x4 x5 x6 x7 x8 x9 x10 x11 x12 : Option Value} {t : List (Option Value)} {v : Int64} (hd : decode cc pc = .ok (.lload 13, 2)) (k : J E Y N cs ss w (pc + 2) (x0 :: x1 :: x2 :: x3 :: x4 :: x5 :: x6 :: x7 :: x8 :: x9 :: x10 :: x11 :: x12 :: some (.long v) :: t) (.long v :: st)) : J E Y N cs ss w pc (x0 :: x1 :: x2 :: x3 :: x4 :: x5 :: x6 :: x7 :: x8 :: x9 :: x10 :: x11 :: x12 :: some (.long v) :: t) st := fun H locs ls hI hl => lv_lload C.1 C.2.1 hd (hl.2.2 13 _ rfl) (k H locs ls hI hl)
theorem J_lstore_13 (C : Cx E Y cc nL own Ts R) {x0 x1 x2 x3 x4 x5 x6 x7 x8 x9 x10 x11 x12 : Option Value} {x13 x14 : Option Value} {t : List (Option Value)} {v : Int64} (hd : decode cc pc = .ok (.lstore 13, 2)) (hn : 13 + 1 < nL) (ho : okS x12) (k : J E Y N cs ss w (pc + 2) (x0 :: x1 :: x2 :: x3 :: x4 :: x5 :: x6 :: x7 :: x8 :: x9 :: x10 :: x11 :: x12 :: some (.long v) :: none :: t) st) : J E Y N cs ss w pc (x0 :: x1 :: x2 :: x3 :: x4 :: x5 :: x6 :: x7 :: x8 :: x9 :: x10 :: x11 :: x12 :: x13 :: x14 :: t) (.long v :: st) := fun H locs ls hI hl => lv_lstore C.1 C.2.1 hd hl.has (by rw [C.2.2.2.1]; exact hn) rfl (fun ls2 h2 => k H locs ls2 hI (lvH.st2 h2 (fun u _ hu => okS.cat ho (Option.some.inj hu))))
theorem J_aload_0 (C : Cx E Y cc nL own Ts R) {t : List (Option Value)} {v : Nat} (hd : decode cc pc = .ok (.aload_n 0, 1)) (k : J E Y N cs ss w (pc + 1) (some (.ref v) :: t) (.ref v :: st)) : J E Y N cs ss w pc (some (.ref v) :: t) st := fun H locs ls hI hl => lv_aload_n C.1 C.2.1 hd rfl (hl.2.2 0 _ rfl) (k H locs ls hI hl)
theorem J_astore_0 (C : Cx E Y cc nL own Ts R) {x0 : Option Value} {t : List (Option Value)} {v : Nat} (hd : decode cc pc = .ok (.astore_n 0, 1)) (hn : 0 < nL) (k : J E Y N cs ss w (pc + 1) (some (.ref v) :: t) st) : J E Y N cs ss w pc (x0 :: t) (.ref v :: st) := fun H locs ls hI hl => lv_astore_n C.1 C.2.1 hd rfl hl.has (by rw [C.2.2.2.1]; exact hn) rfl (fun ls2 h2 => k H locs ls2 hI (lvH.st1 h2 (fun u h0 _ => absurd rfl h0)))
theorem J_aload_1 (C : Cx E Y cc nL own Ts R) {x0 : Option Value} {t : List (Option Value)} {v : Nat} (hd : decode cc pc = .ok (.aload_n 1, 1)) (k : J E Y N cs ss w (pc + 1) (x0 :: some (.ref v) :: t) (.ref v :: st)) : J E Y N cs ss w pc (x0 :: some (.ref v) :: t) st := fun H locs ls hI hl => lv_aload_n C.1 C.2.1 hd rfl (hl.2.2 1 _ rfl) (k H locs ls hI hl)
theorem J_astore_1 (C : Cx E Y cc nL own Ts R) {x0 : Option Value} {x1 : Option Value} {t : List (Option Value)} {v : Nat} (hd : decode cc pc = .ok (.astore_n 1, 1)) (hn : 1 < nL) (ho : okS x0) (k : J E Y N cs ss w (pc + 1) (x0 :: some (.ref v) :: t) st) : J E Y N cs ss w pc (x0 :: x1 :: t) (.ref v :: st) := fun H locs ls hI hl => lv_astore_n C.1 C.2.1 hd rfl hl.has (by rw [C.2.2.2.1]; exact hn) rfl (fun ls2 h2 => k H locs ls2 hI (lvH.st1 h2 (fun u _ hu => okS.cat ho (Option.some.inj hu))))
theorem J_aload_2 (C : Cx E Y cc nL own Ts R) {x0 x1 : Option Value} {t : List (Option Value)} {v : Nat} (hd : decode cc pc = .ok (.aload_n 2, 1)) (k : J E Y N cs ss w (pc + 1) (x0 :: x1 :: some (.ref v) :: t) (.ref v :: st)) : J E Y N cs ss w pc (x0 :: x1 :: some (.ref v) :: t) st := fun H locs ls hI hl => lv_aload_n C.1 C.2.1 hd rfl (hl.2.2 2 _ rfl) (k H locs ls hI hl)
theorem J_astore_2 (C : Cx E Y cc nL own Ts R) {x0 x1 : Option Value} {x2 : Option Value} {t : List (Option Value)} {v : Nat} (hd : decode cc pc = .ok (.astore_n 2, 1)) (hn : 2 < nL) (ho : okS x1) (k : J E Y N cs ss w (pc + 1) (x0 :: x1 :: some (.ref v) :: t) st) : J E Y N cs ss w pc (x0 :: x1 :: x2 :: t) (.ref v :: st) := fun H locs ls hI hl => lv_astore_n C.1 C.2.1 hd rfl hl.has (by rw [C.2.2.2.1]; exact hn) rfl (fun ls2 h2 => k H locs ls2 hI (lvH.st1 h2 (fun u _ hu => okS.cat ho (Option.some.inj hu))))
theorem J_aload_3 (C : Cx E Y cc nL own Ts R) {x0 x1 x2 : Option Value} {t : List (Option Value)} {v : Nat} (hd : decode cc pc = .ok (.aload_n 3, 1)) (k : J E Y N cs ss w (pc + 1) (x0 :: x1 :: x2 :: some (.ref v) :: t) (.ref v :: st)) : J E Y N cs ss w pc (x0 :: x1 :: x2 :: some (.ref v) :: t) st := fun H locs ls hI hl => lv_aload_n C.1 C.2.1 hd rfl (hl.2.2 3 _ rfl) (k H locs ls hI hl)
theorem J_astore_3 (C : Cx E Y cc nL own Ts R) {x0 x1 x2 : Option Value} {x3 : Option Value} {t : List (Option Value)} {v : Nat} (hd : decode cc pc = .ok (.astore_n 3, 1)) (hn : 3 < nL) (ho : okS x2) (k : J E Y N cs ss w (pc + 1) (x0 :: x1 :: x2 :: some (.ref v) :: t) st) : J E Y N cs ss w pc (x0 :: x1 :: x2 :: x3 :: t) (.ref v :: st) := fun H locs ls hI hl => lv_astore_n C.1 C.2.1 hd rfl hl.has (by rw [C.2.2.2.1]; exact hn) rfl (fun ls2 h2 => k H locs ls2 hI (lvH.st1 h2 (fun u _ hu => okS.cat ho (Option.some.inj hu))))
theorem J_aload_4 (C : Cx E Y cc nL own Ts R) {x0 x1 x2 x3 : Option Value} {t : List (Option Value)} {v : Nat} (hd : decode cc pc = .ok (.aload 4, 2)) (k : J E Y N cs ss w (pc + 2) (x0 :: x1 :: x2 :: x3 :: some (.ref v) :: t) (.ref v :: st)) : J E Y N cs ss w pc (x0 :: x1 :: x2 :: x3 :: some (.ref v) :: t) st := fun H locs ls hI hl => lv_aload C.1 C.2.1 hd (hl.2.2 4 _ rfl) (k H locs ls hI hl)
theorem J_astore_4 (C : Cx E Y cc nL own Ts R) {x0 x1 x2 x3 : Option Value} {x4 : Option Value} {t : List (Option Value)} {v : Nat} (hd : decode cc pc = .ok (.astore 4, 2)) (hn : 4 < nL) (ho : okS x3) (k : J E Y N cs ss w (pc + 2) (x0 :: x1 :: x2 :: x3 :: some (.ref v) :: t) st) : J E Y N cs ss w pc (x0 :: x1 :: x2 :: x3 :: x4 :: t) (.ref v :: st) := fun H locs ls hI hl => lv_astore C.1 C.2.1 hd hl.has (by rw [C.2.2.2.1]; exact hn) rfl (fun ls2 h2 => k H locs ls2 hI (lvH.st1 h2 (fun u _ hu => okS.cat ho (Option.some.inj hu))))
theorem J_aload_5 (C : Cx E Y cc nL own Ts R) {x0 x1 x2 x3 x4 : Option Value} {t : List (Option Value)} {v : Nat} (hd : decode cc pc = .ok (.aload 5, 2)) (k : J E Y N cs ss w (pc + 2) (x0 :: x1 :: x2 :: x3 :: x4 :: some (.ref v) :: t) (.ref v :: st)) : J E Y N cs ss w pc (x0 :: x1 :: x2 :: x3 :: x4 :: some (.ref v) :: t) st := fun H locs ls hI hl => lv_aload C.1 C.2.1 hd (hl.2.2 5 _ rfl) (k H locs ls hI hl)
theorem J_astore_5 (C : Cx E Y cc nL own Ts R) {x0 x1 x2 x3 x4 : Option Value} {x5 : Option Value} {t : List (Option Value)} {v : Nat} (hd : decode cc pc = .ok (.astore 5, 2)) (hn : 5 < nL) (ho : okS x4) (k : J E Y N cs ss w (pc + 2) (x0 :: x1 :: x2 :: x3 :: x4 :: some (.ref v) :: t) st) : J E Y N cs ss w pc (x0 :: x1 :: x2 :: x3 :: x4 :: x5 :: t) (.ref v :: st) := fun H locs ls hI hl => lv_astore C.1 C.2.1 hd hl.has (by rw [C.2.2.2.1]; exact hn) rfl (fun ls2 h2 => k H locs ls2 hI (lvH.st1 h2 (fun u _ hu => okS.cat ho (Option.some.inj hu))))
theorem J_aload_6 (C : Cx E Y cc nL own Ts R) {x0 x1 x2 x3 x4 x5 : Option Value} {t : List (Option Value)} {v : Nat} (hd : decode cc pc = .ok (.aload 6, 2)) (k : J E Y N cs ss w (pc + 2) (x0 :: x1 :: x2 :: x3 :: x4 :: x5 :: some (.ref v) :: t) (.ref v :: st)) : J E Y N cs ss w pc (x0 :: x1 :: x2 :: x3 :: x4 :: x5 :: some (.ref v) :: t) st := fun H locs ls hI hl => lv_aload C.1 C.2.1 hd (hl.2.2 6 _ rfl) (k H locs ls hI hl)
theorem J_astore_6 (C : Cx E Y cc nL own Ts R) {x0 x1 x2 x3 x4 x5 : Option Value} {x6 : Option Value} {t : List (Option Value)} {v : Nat} (hd : decode cc pc = .ok (.astore 6, 2)) (hn : 6 < nL) (ho : okS x5) (k : J E Y N cs ss w (pc + 2) (x0 :: x1 :: x2 :: x3 :: x4 :: x5 :: some (.ref v) :: t) st) : J E Y N cs ss w pc (x0 :: x1 :: x2 :: x3 :: x4 :: x5 :: x6 :: t) (.ref v :: st) := fun H locs ls hI hl => lv_astore C.1 C.2.1 hd hl.has (by rw [C.2.2.2.1]; exact hn) rfl (fun ls2 h2 => k H locs ls2 hI (lvH.st1 h2 (fun u _ hu => okS.cat ho (Option.some.inj hu))))
theorem J_aload_7 (C : Cx E Y cc nL own Ts R) {x0 x1 x2 x3 x4 x5 x6 : Option Value} {t : List (Option Value)} {v : Nat} (hd : decode cc pc = .ok (.aload 7, 2)) (k : J E Y N cs ss w (pc + 2) (x0 :: x1 :: x2 :: x3 :: x4 :: x5 :: x6 :: some (.ref v) :: t) (.ref v :: st)) : J E Y N cs ss w pc (x0 :: x1 :: x2 :: x3 :: x4 :: x5 :: x6 :: some (.ref v) :: t) st := fun H locs ls hI hl => lv_aload C.1 C.2.1 hd (hl.2.2 7 _ rfl) (k H locs ls hI hl)
theorem J_astore_7 (C : Cx E Y cc nL own Ts R) {x0 x1 x2 x3 x4 x5 x6 : Option Value} {x7 : Option Value} {t : List (Option Value)} {v : Nat} (hd : decode cc pc = .ok (.astore 7, 2)) (hn : 7 < nL) (ho : okS x6) (k : J E Y N cs ss w (pc + 2) (x0 :: x1 :: x2 :: x3 :: x4 :: x5 :: x6 :: some (.ref v) :: t) st) : J E Y N cs ss w pc (x0 :: x1 :: x2 :: x3 :: x4 :: x5 :: x6 :: x7 :: t) (.ref v :: st) := fun H locs ls hI hl => lv_astore C.1 C.2.1 hd hl.has (by rw [C.2.2.2.1]; exact hn) rfl (fun ls2 h2 => k H locs ls2 hI (lvH.st1 h2 (fun u _ hu => okS.cat ho (Option.some.inj hu))))
theorem J_aload_8 (C : Cx E Y cc nL own Ts R) {x0 x1 x2 x3 x4 x5 x6 x7 : Option Value} {t : List (Option Value)} {v : Nat} (hd : decode cc pc = .ok (.aload 8, 2)) (k : J E Y N cs ss w (pc + 2) (x0 :: x1 :: x2 :: x3 :: x4 :: x5 :: x6 :: x7 :: some (.ref v) :: t) (.ref v :: st)) : J E Y N cs ss w pc (x0 :: x1 :: x2 :: x3 :: x4 :: x5 :: x6 :: x7 :: some (.ref v) :: t) st := fun H locs ls hI hl => lv_aload C.1 C.2.1 hd (hl.2.2 8 _ rfl) (k H locs ls hI hl)
theorem J_astore_8 (C : Cx E Y cc nL own Ts R) {x0 x1 x2 x3 x4 x5 x6 x7 : Option Value} {x8 : Option Value} {t : List (Option Value)} {v : Nat} (hd : decode cc pc = .ok (.astore 8, 2)) (hn : 8 < nL) (ho : okS x7) (k : J E Y N cs ss w (pc + 2) (x0 :: x1 :: x2 :: x3 :: x4 :: x5 :: x6 :: x7 :: some (.ref v) :: t) st) : J E Y N cs ss w pc (x0 :: x1 :: x2 :: x3 :: x4 :: x5 :: x6 :: x7 :: x8 :: t) (.ref v :: st) := fun H locs ls hI hl => lv_astore C.1 C.2.1 hd hl.has (by rw [C.2.2.2.1]; exact hn) rfl (fun ls2 h2 => k H locs ls2 hI (lvH.st1 h2 (fun u _ hu => okS.cat ho (Option.some.inj hu))))
theorem J_aload_9 (C : Cx E Y cc nL own Ts R) {x0 x1 x2 x3 x4 x5 x6 x7 x8 : Option Value} {t : List (Option Value)} {v : Nat} (hd : decode cc pc = .ok (.aload 9, 2)) (k : J E Y N cs ss w (pc + 2) (x0 :: x1 :: x2 :: x3 :: x4 :: x5 :: x6 :: x7 :: x8 :: some (.ref v) :: t) (.ref v :: st)) : J E Y N cs ss w pc (x0 :: x1 :: x2 :: x3 :: x4 :: x5 :: x6 :: x7 :: x8 :: some (.ref v) :: t) st := fun H locs ls hI hl => lv_aload C.1 C.2.1 hd (hl.2.2 9 _ rfl) (k H locs ls hI hl)
theorem J_astore_9 (C : Cx E Y cc nL own Ts R) {x0 x1 x2 x3 x4 x5 x6 x7 x8 : Option Value} {x9 : Option Value} {t : List (Option Value)} {v : Nat} (hd : decode cc pc = .ok (.astore 9, 2)) (hn : 9 < nL) (ho : okS x8) (k : J E Y N cs ss w (pc + 2) (x0 :: x1 :: x2 :: x3 :: x4 :: x5 :: x6 :: x7 :: x8 :: some (.ref v) :: t) st) : J E Y N cs ss w pc (x0 :: x1 :: x2 :: x3 :: x4 :: x5 :: x6 :: x7 :: x8 :: x9 :: t) (.ref v :: st) := fun H locs ls hI hl => lv_astore C.1 C.2.1 hd hl.has (by rw [C.2.2.2.1]; exact hn) rfl (fun ls2 h2 => k H locs ls2 hI (lvH.st1 h2 (fun u _ hu => okS.cat ho (Option.some.inj hu))))
theorem J_aload_10 (C : Cx E Y cc nL own Ts R) {x0 x1 x2 x3 x4 x5 x6 x7 x8 x9 : Option Value} {t : List (Option Value)} {v : Nat} (hd : decode cc pc = .ok (.aload 10, 2)) (k : J E Y N cs ss w (pc + 2) (x0 :: x1 :: x2 :: x3 :: x4 :: x5 :: x6 :: x7 :: x8 :: x9 :: some (.ref v) :: t) (.ref v :: st)) : J E Y N cs ss w pc (x0 :: x1 :: x2 :: x3 :: x4 :: x5 :: x6 :: x7 :: x8 :: x9 :: some (.ref v) :: t) st := fun H locs ls hI hl => lv_aload C.1 C.2.1 hd (hl.2.2 10 _ rfl) (k H locs ls hI hl)
theorem J_astore_10 (C : Cx E Y cc nL own Ts R) {x0 x1 x2 x3 x4 x5 x6 x7 x8 x9 : Option Value} {x10 : Option Value} {t : List (Option Value)} {v : Nat} (hd : decode cc pc = .ok (.astore 10, 2)) (hn : 10 < nL) (ho : okS x9) (k : J E Y N cs ss w (pc + 2) (x0 :: x1 :: x2 :: x3 :: x4 :: x5 :: x6 :: x7 :: x8 :: x9 :: some (.ref v) :: t) st) : J E Y N cs ss w pc (x0 :: x1 :: x2 :: x3 :: x4 :: x5 :: x6 :: x7 :: x8 :: x9 :: x10 :: t) (.ref v :: st) := fun H locs ls hI hl => lv_astore C.1 C.2.1 hd hl.has (by rw [C.2.2.2.1]; exact hn) rfl (fun ls2 h2 => k H locs ls2 hI (lvH.st1 h2 (fun u _ hu => okS.cat ho (Option.some.inj hu))))
theorem J_aload_11 (C : Cx E Y cc nL own Ts R) {x0 x1 x2 x3 x4 x5 x6 x7 x8 x9 x10 : Option Value} {t : List (Option Value)} {v : Nat} (hd : decode cc pc = .ok (.aload 11, 2)) (k : J E Y N cs ss w (pc + 2) (x0 :: x1 :: x2 :: x3 :: x4 :: x5 :: x6 :: x7 :: x8 :: x9 :: x10 :: some (.ref v) :: t) (.ref v :: st)) : J E Y N cs ss w pc (x0 :: x1 :: x2 :: x3 :: x4 :: x5 :: x6 :: x7 :: x8 :: x9 :: x10 :: some (.ref v) :: t) st := fun H locs ls hI hl => lv_aload C.1 C.2.1 hd (hl.2.2 11 _ rfl) (k H locs ls hI hl)
theorem J_astore_11 (C : Cx E Y cc nL own Ts R) {x0 x1 x2 x3 x4 x5 x6 x7 x8 x9 x10 : Option Value} {x11 : Option Value} {t : List (Option Value)} {v : Nat} (hd : decode cc pc = .ok (.astore 11, 2)) (hn : 11 < nL) (ho : okS x10) (k : J E Y N cs ss w (pc + 2) (x0 :: x1 :: x2 :: x3 :: x4 :: x5 :: x6 :: x7 :: x8 :: x9 :: x10 :: some (.ref v) :: t) st) : J E Y N cs ss w pc (x0 :: x1 :: x2 :: x3 :: x4 :: x5 :: x6 :: x7 :: x8 :: x9 :: x10 :: x11 :: t) (.ref v :: st) := fun H locs ls hI hl => lv_astore C.1 C.2.1 hd hl.has (by rw [C.2.2.2.1]; exact hn) rfl (fun ls2 h2 => k H locs ls2 hI (lvH.st1 h2 (fun u _ hu => okS.cat ho (Option.some.inj hu))))
theorem J_aload_12 (C : Cx E Y cc nL own Ts R) {x0 x1 x2 x3 x4 x5 x6 x7 x8 x9 x10 x11 : Option Value} {t : List (Option Value)} {v : Nat} (hd : decode cc pc = .ok (.aload 12, 2)) (k : J E Y N cs ss w (pc + 2) (x0 :: x1 :: x2 :: x3 :: x4 :: x5 :: x6 :: x7 :: x8 :: x9 :: x10 :: x11 :: some (.ref v) :: t) (.ref v :: st)) : J E Y N cs ss w pc (x0 :: x1 :: x2 :: x3 :: x4 :: x5 :: x6 :: x7 :: x8 :: x9 :: x10 :: x11 :: some (.ref v) :: t) st := fun H locs ls hI hl => lv_aload C.1 C.2.1 hd (hl.2.2 12 _ rfl) (k H locs ls hI hl)
theorem J_astore_12 (C : Cx E Y cc nL own Ts R) {x0 x1 x2 x3 x4 x5 x6 x7 x8 x9 x10 x11 : Option Value} {x12 : Option Value} {t : List (Option Value)} {v : Nat} (hd : decode cc pc = .ok (.astore 12, 2)) (hn : 12 < nL) (ho : okS x11) (k : J E Y N cs ss w (pc + 2) (x0 :: x1 :: x2 :: x3 :: x4 :: x5 :: x6 :: x7 :: x8 :: x9 :: x10 :: x11 :: some (.ref v) :: t) st) : J E Y N cs ss w pc (x0 :: x1 :: x2 :: x3 :: x4 :: x5 :: x6 :: x7 :: x8 :: x9 :: x10 :: x11 :: x12 :: t) (.ref v :: st) := fun H locs ls hI hl => lv_astore C.1 C.2.1 hd hl.has (by rw [C.2.2.2.1]; exact hn) rfl (fun ls2 h2 => k H locs ls2 hI (lvH.st1 h2 (fun u _ hu => okS.cat ho (Option.some.inj hu))))
theorem J_aload_13 (C : Cx E Y cc nL own Ts R) {x0 x1 x2 x3 x4 x5 x6 x7 x8 x9 x10 x11 x12 : Option Value} {t : List (Option Value)} {v : Nat} (hd : decode cc pc = .ok (.aload 13, 2)) (k : J E Y N cs ss w (pc + 2) (x0 :: x1 :: x2 :: x3 :: x4 :: x5 :: x6 :: x7 :: x8 :: x9 :: x10 :: x11 :: x12 :: some (.ref v) :: t) (.ref v :: st)) : J E Y N cs ss w pc (x0 :: x1 :: x2 :: x3 :: x4 :: x5 :: x6 :: x7 :: x8 :: x9 :: x10 :: x11 :: x12 :: some (.ref v) :: t) st := fun H locs ls hI hl => lv_aload C.1 C.2.1 hd (hl.2.2 13 _ rfl) (k H locs ls hI hl)
theorem J_astore_13 (C : Cx E Y cc nL own Ts R) {x0 x1 x2 x3 x4 x5 x6 x7 x8 x9 x10 x11 x12 : Option Value} {x13 : Option Value} {t : List (Option Value)} {v : Nat} (hd : decode cc pc = .ok (.astore 13, 2)) (hn : 13 < nL) (ho : okS x12) (k : J E Y N cs ss w (pc + 2) (x0 :: x1 :: x2 :: x3 :: x4 :: x5 :: x6 :: x7 :: x8 :: x9 :: x10 :: x11 :: x12 :: some (.ref v) :: t) st) : J E Y N cs ss w pc (x0 :: x1 :: x2 :: x3 :: x4 :: x5 :: x6 :: x7 :: x8 :: x9 :: x10 :: x11 :: x12 :: x13 :: t) (.ref v :: st) := fun H locs ls hI hl => lv_astore C.1 C.2.1 hd hl.has (by rw [C.2.2.2.1]; exact hn) rfl (fun ls2 h2 => k H locs ls2 hI (lvH.st1 h2 (fun u _ hu => okS.cat ho (Option.some.inj hu))))
theorem J_get (C : Cx E Y cc nL own Ts R) {Cn : String} {T : u_T} {N0 ci idx a : Nat} {v : Value} {fs : List Value} (k j : Nat) (hd : decode cc pc = .ok (.getfield idx, 3)) (hl : Cond.fieldLink own idx Cn (T j).2.1 (T j).2.2.1 ∈ Ts) (hi : ∀ x ∈ u_ws Cn T N0, x ∈ Ts) (hc : vwCl[ci]? = some (Cn, T, N0)) (hk : k < N) (ha : a = eA E k) (hw : w k = .inr (ci, fs)) (hj : j < N0) (hr : (T j).1 = Cn) (hv : fs[j]? = some v) (kk : J E Y N cs ss w (pc + 3) lv (v :: st)) : J E Y N cs ss w pc lv (.ref a :: st) := by
  intro H locs ls hI hls
  subst ha
  exact va_get C.1 C.2.1 C.2.2.2.2.2.1 hi C.2.2.2.2.1 C.2.2.2.2.2.2.1 hI.1 k (by rw [wsF_get _ _ hk, hw]) hc j hj (C.2.2.2.2.2.1 _ hl) (by rw [hr]; exact fun _ h => h) hv hd (kk H locs ls hI hls)
theorem J_put (C : Cx E Y cc nL own Ts R) {Cn : String} {T : u_T} {N0 ci idx a : Nat} {v : Value} {ty : FieldType} {fs : List Value} (k j : Nat) (hd : decode cc pc = .ok (.putfield idx, 3)) (hl : Cond.fieldLink own idx Cn (T j).2.1 (T j).2.2.1 ∈ Ts) (hi : ∀ x ∈ u_ws Cn T N0, x ∈ Ts) (ty0 : Nat → FieldType) (hty : ∀ k, k < N0 → parseFieldDescriptor (T k).2.2.1 = some (ty0 k)) (hnm : ∀ a, a < N0 → ∀ b, b < N0 → a ≠ b → (T a).2.1 ≠ (T b).2.1) (hc : vwCl[ci]? = some (Cn, T, N0)) (hk : k < N) (ha : a = eA E k) (hw : w k = .inr (ci, fs)) (hj : j < N0) (hr : (T j).1 = Cn) (hfin : (T j).2.2.2 = false) (ht : parseFieldDescriptor (T j).2.2.1 = some ty) (hn : narrow ty v = v) (hfit : fits ty v = true) (hlen : j < fs.length) (kk : J E Y N cs ss (va_up w k (.inr (ci, fs.set j v))) (pc + 3) lv st) : J E Y N cs ss w pc lv (v :: .ref a :: st) := by
  intro H locs ls hI hls
  subst ha
  have hts := C.2.2.2.2.2.1
  have hK := C.2.2.2.2.2.2.1
  have he : (wsF N (eA E) w)[k]? = some (eA E k, .inr (ci, fs)) := by rw [wsF_get _ _ hk, hw]
  have hap := va_apart (own := own) hts hi ty0 hty hnm hK hc
  obtain ⟨r, h1, cell, q1, q2, q3, q4⟩ := hI.1 k _ he
  have hr2 : r = (Cn, T, N0) := Option.some.inj (h1.symm.trans hc)
  subst hr2
  obtain ⟨hS, hfc, kC, hkC, hkind⟩ := hK.1 ci _ hc
  obtain ⟨cf, kf, fi, f, hi2, hsl⟩ := hS j hj
  have hlay := hts _ (hi _ (u_in_lay hj))
  unfold u_lay at hlay
  rw [if_neg (by rw [hfin]; decide)] at hlay
  have hst := (u_facts hfc hkC (u_lays hts hi hj) hi2).1
  have h6 := u_store hfc hkC hkind hlay hi2 ht hn hfit
  refine W.putK C.1 C.2.1 (f := f) ⟨C.2.2.2.2.1, hts _ hl, ⟨_, _, _, (show ∀ x, (ys Y).fieldFound? (T j).1 (T j).2.1 (T j).2.2.1 = some x → (ys Y).fieldFound? Cn (T j).2.1 (T j).2.2.1 = some x by rw [hr]; exact fun _ h => h) _ hi2⟩, hst⟩ (by rw [q2]; exact h6) q1 q3 (by rw [hsl]; exact k2_hasslot (q4 j hj)) rfl rfl hd fun H' e1 e2 e3 => ?_
  rw [hsl] at e1 ⊢
  exact kk H' _ ls (hI.put e2 (hI.1.set hI.D he ⟨_, hc, t_OB.to (V := updV (vp_V fs) j v) ⟨_, e1, q2, q3, t_set q4 hap hj v⟩ (fun i _ => vp_updV_set hlen v i)⟩ e3) (hI.2.2.2.2.put e2 e3 (hI.2.2.1 k hk))) hls
theorem J_putF (C : Cx E Y cc nL own Ts R) {Cn : String} {T : u_T} {N0 ci idx a : Nat} {v : Value} {ty : FieldType} {fs : List Value} (k j : Nat) (hin2 : (yM Y).name = "<init>") (hd : decode cc pc = .ok (.putfield idx, 3)) (hl : Cond.fieldLink own idx Cn (T j).2.1 (T j).2.2.1 ∈ Ts) (hi : ∀ x ∈ u_ws Cn T N0, x ∈ Ts) (ty0 : Nat → FieldType) (hty : ∀ k, k < N0 → parseFieldDescriptor (T k).2.2.1 = some (ty0 k)) (hnm : ∀ a, a < N0 → ∀ b, b < N0 → a ≠ b → (T a).2.1 ≠ (T b).2.1) (hc : vwCl[ci]? = some (Cn, T, N0)) (hk : k < N) (ha : a = eA E k) (hw : w k = .inr (ci, fs)) (hj : j < N0) (hr : (T j).1 = Cn) (hro : (T j).1 = own) (hfin : (T j).2.2.2 = true) (ht : parseFieldDescriptor (T j).2.2.1 = some ty) (hn : narrow ty v = v) (hfit : fits ty v = true) (hlen : j < fs.length) (kk : J E Y N cs ss (va_up w k (.inr (ci, fs.set j v))) (pc + 3) lv st) : J E Y N cs ss w pc lv (v :: .ref a :: st) := by
  intro H locs ls hI hls
  subst ha
  have hts := C.2.2.2.2.2.1
  have hK := C.2.2.2.2.2.2.1
  have hown := C.2.2.2.2.1
  have he : (wsF N (eA E) w)[k]? = some (eA E k, .inr (ci, fs)) := by rw [wsF_get _ _ hk, hw]
  have hap := va_apart (own := own) hts hi ty0 hty hnm hK hc
  obtain ⟨r, h1, cell, q1, q2, q3, q4⟩ := hI.1 k _ he
  have hr2 : r = (Cn, T, N0) := Option.some.inj (h1.symm.trans hc)
  subst hr2
  obtain ⟨hS, hfc, kC, hkC, hkind⟩ := hK.1 ci _ hc
  obtain ⟨cf, kf, fi, f, hi2, hsl⟩ := hS j hj
  have hlay := hts _ (hi _ (u_in_lay hj))
  unfold u_lay at hlay
  rw [if_pos hfin] at hlay
  have hst := (u_facts hfc hkC (u_lays hts hi hj) hi2).1
  have hcf : (ym Y).cls = cf := by
    obtain ⟨_, _, c', _, _, _, -, -, hf', -, -, -, hown2, -⟩ := Cond.laysFinal_spec hlay
    have e1 : c' = cf := by have := hi2.symm.trans hf'; simp at this; exact this.1.symm
    rw [hro] at hown2
    rw [← e1]; exact Option.some.inj (hown.symm.trans hown2)
  have h6 := u_fits hfc hkC hkind (Or.inr hlay) hi2 ht hn hfit
  refine W.putFinK C.1 C.2.1 hown (hts _ hl) ((show ∀ x, (ys Y).fieldFound? (T j).1 (T j).2.1 (T j).2.2.1 = some x → (ys Y).fieldFound? Cn (T j).2.1 (T j).2.2.1 = some x by rw [hr]; exact fun _ h => h) _ hi2) hst hcf hin2 (by rw [q2]; exact h6) q1 q3 (by rw [hsl]; exact k2_hasslot (q4 j hj)) rfl rfl hd fun H' e1 e2 e3 => ?_
  rw [hsl] at e1 ⊢
  exact kk H' _ ls (hI.put e2 (hI.1.set hI.D he ⟨_, hc, t_OB.to (V := updV (vp_V fs) j v) ⟨_, e1, q2, q3, t_set q4 hap hj v⟩ (fun i _ => vp_updV_set hlen v i)⟩ e3) (hI.2.2.2.2.put e2 e3 (hI.2.2.1 k hk))) hls
/-- arrays: index told as a natural number -/
theorem vpn {i : Int32} {j n : Nat} (hi : i = nI j) (hj : j < n) (hn : n < 2 ^ 31) : vp_in i n ∧ i.toNatClampNeg = j := by
  subst hi
  exact ⟨vp_in_nI hj hn, nI_clamp (Nat.lt_trans hj hn)⟩
theorem J_iald (C : Cx E Y cc nL own Ts R) {a n : Nat} {i : Int32} {f : Nat → Int32} (k j : Nat) (hd : decode cc pc = .ok (.iaload, 1)) (hk : k < N) (ha : a = eA E k) (hw : w k = .inl (eC E 0, n, .inl f)) (hn : n < 2 ^ 31) (hi : i = nI j) (hj : j < n) (kk : J E Y N cs ss w (pc + 1) lv (.int (f j) :: st)) : J E Y N cs ss w pc lv (.int i :: .ref a :: st) := by
  intro H locs ls hI hls
  subst ha
  obtain ⟨h1, h2⟩ := vpn hi hj hn
  refine va_iald C.1 C.2.1 C.2.2.2.2.2.2.1 hI.1 k 0 (by rw [wsF_get _ _ hk, hw]) rfl h1 hd ?_
  rw [h2]
  exact kk H locs ls hI hls
theorem J_zald (C : Cx E Y cc nL own Ts R) {a n : Nat} {i : Int32} {f : Nat → Int32} (k j : Nat) (hd : decode cc pc = .ok (.baload, 1)) (hk : k < N) (ha : a = eA E k) (hw : w k = .inl (eC E 2, n, .inl f)) (hn : n < 2 ^ 31) (hi : i = nI j) (hj : j < n) (kk : J E Y N cs ss w (pc + 1) lv (.int (f j) :: st)) : J E Y N cs ss w pc lv (.int i :: .ref a :: st) := by
  intro H locs ls hI hls
  subst ha
  obtain ⟨h1, h2⟩ := vpn hi hj hn
  refine va_zald C.1 C.2.1 C.2.2.2.2.2.2.1 hI.1 k 2 (by rw [wsF_get _ _ hk, hw]) rfl h1 hd ?_
  rw [h2]
  exact kk H locs ls hI hls
theorem J_lald (C : Cx E Y cc nL own Ts R) {a n : Nat} {i : Int32} {f : Nat → Int64} (k j : Nat) (hd : decode cc pc = .ok (.laload, 1)) (hk : k < N) (ha : a = eA E k) (hw : w k = .inl (eC E 1, n, .inr (.inl f))) (hn : n < 2 ^ 31) (hi : i = nI j) (hj : j < n) (kk : J E Y N cs ss w (pc + 1) lv (.long (f j) :: st)) : J E Y N cs ss w pc lv (.int i :: .ref a :: st) := by
  intro H locs ls hI hls
  subst ha
  obtain ⟨h1, h2⟩ := vpn hi hj hn
  refine va_lald C.1 C.2.1 C.2.2.2.2.2.2.1 hI.1 k 1 (by rw [wsF_get _ _ hk, hw]) rfl h1 hd ?_
  rw [h2]
  exact kk H locs ls hI hls
theorem J_qald (C : Cx E Y cc nL own Ts R) {a n : Nat} {i : Int32} {f : Nat → Option Nat} (k j : Nat) (hd : decode cc pc = .ok (.aaload, 1)) (hk : k < N) (ha : a = eA E k) (hw : w k = .inl (eC E 3, n, .inr (.inr (.inr (.inr f))))) (hn : n < 2 ^ 31) (hi : i = nI j) (hj : j < n) (kk : J E Y N cs ss w (pc + 1) lv (va_rf (f j) :: st)) : J E Y N cs ss w pc lv (.int i :: .ref a :: st) := by
  intro H locs ls hI hls
  subst ha
  obtain ⟨h1, h2⟩ := vpn hi hj hn
  refine va_aldq C.1 C.2.1 C.2.2.2.2.2.2.1 hI.1 k 3 (C := RX0) (by rw [wsF_get _ _ hk, hw]) rfl h1 hd ?_
  rw [h2]
  exact kk H locs ls hI hls
theorem J_iast (C : Cx E Y cc nL own Ts R) {a n : Nat} {i x : Int32} {f : Nat → Int32} (k j : Nat) (hd : decode cc pc = .ok (.iastore, 1)) (hk : k < N) (ha : a = eA E k) (hw : w k = .inl (eC E 0, n, .inl f)) (hn : n < 2 ^ 31) (hi : i = nI j) (hj : j < n) (kk : J E Y N cs ss (va_up w k (.inl (eC E 0, n, .inl (upd f j x)))) (pc + 1) lv st) : J E Y N cs ss w pc lv (.int x :: .int i :: .ref a :: st) := by
  intro H locs ls hI hls
  subst ha
  obtain ⟨h1, h2⟩ := vpn hi hj hn
  have he : (wsF N (eA E) w)[k]? = some (eA E k, .inl (eC E 0, n, .inl f)) := by rw [wsF_get _ _ hk, hw]
  refine W.iast C.1 C.2.1 (hI.1 k _ he) ((C.2.2.2.2.2.2.1.2 0 _ rfl).1 n (fun j => .int (f j))) (fun q => by cases q) (by show ¬ (i < 0 ∨ (arrV _ _ _).slots.size ≤ _); rw [arrV_size]; exact h1) rfl rfl hd fun H1 e z oq => ?_
  refine kk H1 _ ls (hI.put z (hI.1.set hI.D he ?_ oq) (hI.2.2.2.2.put z oq (hI.2.2.1 k hk))) hls
  show H1[eA E k]? = some (vp_cell _ _)
  rw [e, h2]
  rw [vp_cell_i, vp_cell_i, arrV_store]
  congr 2
  funext q
  by_cases hq : q = j
  · subst hq
    simp [updV, upd]
  · simp [updV, upd, hq]
theorem J_zast (C : Cx E Y cc nL own Ts R) {a n : Nat} {i x : Int32} {f : Nat → Int32} (k j : Nat) (hd : decode cc pc = .ok (.bastore, 1)) (hk : k < N) (ha : a = eA E k) (hw : w k = .inl (eC E 2, n, .inl f)) (hn : n < 2 ^ 31) (hi : i = nI j) (hj : j < n) (hx : vp_nar .boolean x = x) (kk : J E Y N cs ss (va_up w k (.inl (eC E 2, n, .inl (upd f j x)))) (pc + 1) lv st) : J E Y N cs ss w pc lv (.int x :: .int i :: .ref a :: st) := by
  intro H locs ls hI hls
  subst ha
  obtain ⟨h1, h2⟩ := vpn hi hj hn
  have he : (wsF N (eA E) w)[k]? = some (eA E k, .inl (eC E 2, n, .inl f)) := by rw [wsF_get _ _ hk, hw]
  refine W.zast C.1 C.2.1 (hI.1 k _ he) ((C.2.2.2.2.2.2.1.2 2 _ rfl).1 n (fun j => .int (f j))) (fun q => by cases q) (by show ¬ (i < 0 ∨ (arrV _ _ _).slots.size ≤ _); rw [arrV_size]; exact h1) rfl rfl hd fun H1 e z oq => ?_
  refine kk H1 _ ls (hI.put z (hI.1.set hI.D he ?_ oq) (hI.2.2.2.2.put z oq (hI.2.2.1 k hk))) hls
  show H1[eA E k]? = some (vp_cell _ _)
  rw [e, h2]
  rw [vp_cell_i, vp_cell_i, arrV_store]
  congr 2
  funext q
  have hx2 : narrow .boolean (.int x) = .int x := by
    have : narrow .boolean (.int x) = .int (vp_nar .boolean x) := by simp [vp_nar, narrow]
    rw [this, hx]
  by_cases hq : q = j
  · subst hq
    simp only [updV, upd, if_true]
    exact hx2
  · simp [updV, upd, hq]
theorem J_last (C : Cx E Y cc nL own Ts R) {a n : Nat} {i : Int32} {x : Int64} {f : Nat → Int64} (k j : Nat) (hd : decode cc pc = .ok (.lastore, 1)) (hk : k < N) (ha : a = eA E k) (hw : w k = .inl (eC E 1, n, .inr (.inl f))) (hn : n < 2 ^ 31) (hi : i = nI j) (hj : j < n) (kk : J E Y N cs ss (va_up w k (.inl (eC E 1, n, .inr (.inl (vp_updL f j x))))) (pc + 1) lv st) : J E Y N cs ss w pc lv (.long x :: .int i :: .ref a :: st) := by
  intro H locs ls hI hls
  subst ha
  obtain ⟨h1, h2⟩ := vpn hi hj hn
  have he : (wsF N (eA E) w)[k]? = some (eA E k, .inl (eC E 1, n, .inr (.inl f))) := by rw [wsF_get _ _ hk, hw]
  refine W.last C.1 C.2.1 (hI.1 k _ he) ((C.2.2.2.2.2.2.1.2 1 _ rfl).1 n (fun j => .long (f j))) (fun q => by cases q) (by show ¬ (i < 0 ∨ (arrV _ _ _).slots.size ≤ _); rw [arrV_size]; exact h1) rfl rfl hd fun H1 e z oq => ?_
  refine kk H1 _ ls (hI.put z (hI.1.set hI.D he ?_ oq) (hI.2.2.2.2.put z oq (hI.2.2.1 k hk))) hls
  show H1[eA E k]? = some (vp_cell _ _)
  rw [e, h2]
  rw [vp_cell_l, vp_cell_l, arrV_store]
  congr 2
  funext q
  by_cases hq : q = j
  · subst hq
    simp [updV, vp_updL]
  · simp [updV, vp_updL, hq]
theorem Inv.push {D0 : EN} {N : Nat} {w : Nat → va_E} {e : va_E} {H H1 : Heap} {locs : List Loc} {Y : YN} (hI : Inv D0 Y N w H locs) (hA : ∀ q, (ys Y).heap.size ≤ q → yA Y q) (z : H1.size = H.size + 1) (o : ∀ q, q < H.size → H1[q]? = H[q]?) (he : va_at (eD D0) vwCl (H.size, e) H1) : Inv D0 Y (N + 1) (va_up w N e) H1 locs := by
  have hq : eA D0 N = H.size := by have := hI.2.2.2.1 0; simpa using this
  have hlt : ∀ i, i < N → eA D0 i < H.size := fun i hi => (hI.1 i _ (wsF_get _ _ hi)).lt
  refine ⟨?_, ?_, ?_, ?_, ?_⟩
  · rw [← wsF_push]
    refine (hI.1.kept (fun k x hx => o x.1 ((hI.1 k x hx).lt))).app (fun k x hx => ?_)
    have hz : k < 1 := (List.getElem?_eq_some_iff.mp hx).1
    rw [show k = 0 by omega] at hx
    cases hx
    rw [hq]
    exact he
  · intro i j hi hj hij
    by_cases e1 : i = N
    · by_cases e2 : j = N
      · omega
      · have := hlt j (by omega)
        rw [e1, hq] at hij
        omega
    · by_cases e2 : j = N
      · have := hlt i (by omega)
        rw [e2, hq] at hij
        omega
      · exact hI.2.1 i j (by omega) (by omega) hij
  · intro i hi
    by_cases e1 : i = N
    · rw [e1, hq]
      exact hA _ hI.2.2.2.2.1
    · exact hI.2.2.1 i (by omega)
  · intro k
    have := hI.2.2.2.1 (k + 1)
    rw [z, show N + 1 + k = N + (k + 1) by omega, this]
    omega
  · exact ⟨Nat.le_trans hI.2.2.2.2.1 (by omega), fun x h1 h2 => (o x (Nat.lt_of_lt_of_le h1 hI.2.2.2.2.1)).trans (hI.2.2.2.2.2.1 x h1 h2), hI.2.2.2.2.2.2⟩
theorem J_new (C : Cx E Y cc nL own Ts R) {Cn : String} {T : u_T} {N0 ci idx : Nat} {fs : List Value} (hd : decode cc pc = .ok (.new idx, 3)) (hl : Cond.classLink own idx Cn ∈ Ts) (hinst : Cond.instantiable Cn N0 ∈ Ts) (hini : Cond.initialized Cn ∈ Ts) (hi : ∀ x ∈ u_ws Cn T N0, x ∈ Ts) (ty : Nat → FieldType) (hty : ∀ k, k < N0 → parseFieldDescriptor (T k).2.2.1 = some (ty k)) (hc : vwCl[ci]? = some (Cn, T, N0)) (hfs : ∀ j, j < N0 → defaultValue (ty j) = vp_V fs j) (hcells : cs + 1 ≤ R.cells) (hslots : ss + N0 ≤ R.slots) (kk : J E Y (N + 1) (cs + 1) (ss + N0) (va_up w N (.inr (ci, fs))) (pc + 3) lv (.ref (eA E N) :: st)) : J E Y N cs ss w pc lv st := by
  intro H locs ls hI hls
  have hts := C.2.2.2.2.2.1
  have hR := C.2.2.2.2.2.2.2.1
  have hKn := C.2.2.2.2.2.2.1.1 ci _ hc
  refine W.newcK C.1 C.2.1 C.2.2.2.2.1 (hts _ hl) (hts _ hinst) (hts _ hini) rfl hd (by rw [hR]; exact hcells) (by rw [hR]; exact hslots) hKn.2.1 rfl fun H1 kC hkC e1 z1 o1 => ?_
  have hq : eA E N = H.size := by have := hI.2.2.2.1 0; simpa using this
  have := kk H1 locs ls (hI.push C.2.2.2.2.2.2.2.2.1 z1 o1 ⟨_, hc, (u_born ty hts hi hKn hkC e1 hty).to hfs⟩) hls
  rw [hq] at this
  exact this
theorem J_newa (C : Cx E Y cc nL own Ts R) {n : Int32} (atype : ArrayType) (t0 N' : Nat) (a0 : vp_A) (hd : decode cc pc = .ok (.newarray atype, 2)) (harr : Cond.arrayClass (newarray.typeOf atype) ∈ Ts) (cA : ClassId) (ht : (tysOf (eC E))[t0]? = some (cA, newarray.typeOf atype)) (hca : ∀ c : ClassId, (ys Y).vm.findClass ("[" ++ (newarray.typeOf atype).toString) = some c → c = cA) (ha : ∀ cA : ClassId, vp_cell cA a0 = arrV cA N' (fun _ => defaultValue (newarray.typeOf atype))) (hn : ¬ n < 0) (hN : n.toNatClampNeg = N') (hbytes : N' * componentBytes (newarray.typeOf atype) ≤ 536870912) (hcells : cs + 1 ≤ R.cells) (hslots : ss + N' ≤ R.slots) (kk : J E Y (N + 1) (cs + 1) (ss + N') (va_up w N (.inl (cA, a0))) (pc + 2) lv (.ref (eA E N) :: st)) : J E Y N cs ss w pc lv (.int n :: st) := by
  intro H locs ls hI hls
  have hts := C.2.2.2.2.2.1
  have hR := C.2.2.2.2.2.2.2.1
  refine va_newaK C.1 C.2.1 (hts _ harr) rfl hd rfl hn hN hbytes (by rw [hR]; exact hcells) (by rw [hR]; exact hslots) rfl fun H1 cB e1 z1 o1 hAr hNm => ?_
  have hq : eA E N = H.size := by have := hI.2.2.2.1 0; simpa using this
  have hcb := hca cB hNm
  subst hcb
  have := kk H1 locs ls (hI.push C.2.2.2.2.2.2.2.2.1 z1 o1 (by show H1[H.size]? = some (vp_cell _ _); rw [ha]; exact e1)) hls
  rw [hq] at this
  exact this
theorem J_objInit (C : Cx E Y cc nL own Ts R) {a idx : Nat} (hd : decode cc pc = .ok (.invokespecial idx, 3)) (h1 : Cond.methodLink own idx objectInit ∈ Ts) (h2 : Cond.instanceMethod objectInit ∈ Ts) (h3 : Cond.code objectInit ⟨#[0xb1]⟩ 1 none ∈ Ts) (hf : 1 ≤ R.frames) (hloc : (st.map fun v => v.category).sum ≤ 8) (hlr : 20 ≤ R.locals) (kk : J E Y N cs ss w (pc + 3) lv st) : J E Y N cs ss w pc lv (.ref a :: st) := by
  intro H locs ls hI hls
  have hts := C.2.2.2.2.2.1
  have hR := C.2.2.2.2.2.2.2.1
  refine W.objInit C.1 C.2.1 C.2.2.2.2.1 (hts _ h1) (hts _ h2) (hts _ h3) rfl (by rw [C.2.2.1]; exact hls.1) rfl hd (by rw [hR]; exact hf) (by rw [hR]; have := lv_room (m := ym Y) (pc := pc) (ls := ls) (rest := (.ref a :: st)) hloc; omega) ?_
  exact kk H locs ls hI hls

/-- contracts -/
def CtV (E : EN) (N N' : Nat) (y : MethodName) (ws : List Cond) (rm : Room) (mc ms : Nat) (av : List Value) (w : Nat → va_E) (post : (Nat → va_E) → Prop) : Prop := ∀ sz : Nat, Met (eL E) y ws rm (va_Pc av (fun U => U.heap.size = sz ∧ St E N w U)) (va_Qv post (fun w' t => St E N' w' t) (AF E N sz)) mc ms (AF E N sz)
def CtI (E : EN) (N N' : Nat) (y : MethodName) (ws : List Cond) (rm : Room) (mc ms : Nat) (av : List Value) (w : Nat → va_E) (post : Int32 → (Nat → va_E) → Prop) : Prop := ∀ sz : Nat, Met (eL E) y ws rm (va_Pc av (fun U => U.heap.size = sz ∧ St E N w U)) (va_Qi post (fun w' t => St E N' w' t) (AF E N sz)) mc ms (AF E N sz)
def CtL (E : EN) (N N' : Nat) (y : MethodName) (ws : List Cond) (rm : Room) (mc ms : Nat) (av : List Value) (w : Nat → va_E) (post : Int64 → (Nat → va_E) → Prop) : Prop := ∀ sz : Nat, Met (eL E) y ws rm (va_Pc av (fun U => U.heap.size = sz ∧ St E N w U)) (va_Ql post (fun w' t => St E N' w' t) (AF E N sz)) mc ms (AF E N sz)
theorem St.blind {E : EN} {N sz : Nat} {w : Nat → va_E} {av : List Value} : FrameBlind (va_Pc av (fun U => U.heap.size = sz ∧ St E N w U)) := fun a U g mk q => by
  obtain ⟨q0, q1, qP, qK, qD⟩ := q
  exact ⟨q0, q1, qP, va_K.moved (u := U) (U := U.calling g mk a) (Vm.Alike.refl U.vm) qK, qD⟩
theorem Inv.toSt {H : Heap} {locs : List Loc} (hI : Inv E Y N w H locs) (hK : va_K (eD E) vwCl (tysOf (eC E)) (ys Y)) {U : State} (hU : U.heap = H) (hW : (ys Y).WarmedH U.vm) : St E N w U := ⟨by rw [hU]; exact hI.1, va_K.moved hW.alike hK, hI.2.1, by rw [hU]; exact hI.2.2.2.1⟩
theorem Inv.sub {H : Heap} {locs : List Loc} (hI : Inv E Y N w H locs) (hA : ∀ q, (ys Y).heap.size ≤ q → yA Y q) : ∀ q, AF E N H.size q → yA Y q := by
  intro q h
  rcases h with ⟨k, hk, rfl⟩ | h
  · exact hI.2.2.1 k hk
  · exact hA q (Nat.le_trans hI.2.2.2.2.1 h)
theorem Inv.back {H H1 : Heap} {locs locs1 : List Loc} {N' : Nat} {w' : Nat → va_E} (hI : Inv E Y N w H locs) (hA : ∀ q, (ys Y).heap.size ≤ q → yA Y q) (hN : N ≤ N') {t : State} (ht : t.heap = H1) (hB : St E N' w' t) (hS : va_S (yA Y) (ys Y).heap H1 locs1) : Inv E Y N' w' H1 locs1 := by
  refine ⟨by rw [← ht]; exact hB.1, hB.2.2.1, fun i hi => ?_, by rw [← ht]; exact hB.2.2.2, hS⟩
  by_cases h : i < N
  · exact hI.2.2.1 i h
  · have e := hI.2.2.2.1 (i - N)
    rw [show N + (i - N) = i by omega] at e
    rw [e]
    exact hA _ (Nat.le_trans hI.2.2.2.2.1 (by omega))
def rmOK (rm R : Room) (maxL mc ms cs ss : Nat) : Prop := rm.cells = mc ∧ rm.slots = ms ∧ (rm.frames + 1 ≤ R.frames ∧ 8 + (maxL + 11) + rm.locals ≤ R.locals) ∧ cs + mc ≤ R.cells ∧ ss + ms ≤ R.slots
theorem J_cvi (C : Cx E Y cc nL own Ts R) {Cn : String} {T : u_T} {N0 ci idx k b n maxL mc ms N' : Nat} {y : MethodName} {ws ws' : List Cond} {rm : Room} {bytes : ByteArray} {ret : Option FieldType} {fs As rest st0 : List Value} {post : Int32 → (Nat → va_E) → Prop} (hd : decode cc pc = .ok (.invokevirtual idx, 3)) (hM : CtI E N N' y ws rm mc ms (.ref b :: As) w post) (hT : GoodIn Ts (wsV own idx Cn y ws)) (hw : ws = .code y bytes maxL ret :: ws') (hdm : y.cls = Cn ∧ y.cls ≠ "java/lang/invoke/MethodHandle" ∧ y.cls ≠ "java/lang/invoke/VarHandle" ∧ (parseMethodDescriptor y.desc).map (fun d => d.parameters.length) = some n) (hc : vwCl[ci]? = some (Cn, T, N0)) (hk : k < N) (hb : b = eA E k) (hwk : w k = .inr (ci, fs)) (hN : N ≤ N') (hn : As.length = n) (hst : st0 = As.reverse ++ .ref b :: rest) (hW : (rest.map fun v => v.category).sum ≤ 8) (hrm : rmOK rm R maxL mc ms cs ss) (kk : ∀ (r : Int32) (w2 : Nat → va_E), post r w2 → J E Y N' (cs + mc) (ss + ms) w2 (pc + 3) lv (.int r :: rest)) : J E Y N cs ss w pc lv st0 := by
  intro H locs ls hI hls
  subst hst
  have hts := C.2.2.2.2.2.1
  have hK := C.2.2.2.2.2.2.1
  have hR := C.2.2.2.2.2.2.2.1
  have hA := C.2.2.2.2.2.2.2.2.1
  have he : (wsF N (eA E) w)[k]? = some (b, .inr (ci, fs)) := by rw [wsF_get _ _ hk, hwk, hb]
  have hf := hI.sub hA
  refine va_calli (va_runV (As := As) (rest := rest) ⟨C.1, C.2.1, C.2.2.1, C.2.2.2.2.1, hts⟩ (hM H.size) (cwV n hts hT hw hrm.1 hrm.2.1 hdm (by rw [hR]; exact hrm.2.2.1)) ⟨St.blind, va_recv hK hI.1 hc he, fun U hU hW => ⟨rfl, by rw [hU], hI.toSt hK hU hW⟩⟩ rfl hn hls.1 rfl (lv_room hW) hd (by rw [hR]; exact hrm.2.2.2)) hI.2.2.2.2 (fun q _ h => hf q h) hf (fun r w2 t H1 locs1 ht hvm hp hB hz1 hk1 hS => ?_)
  exact kk r w2 hp H1 locs1 ls (hI.back hA hN ht hB hS) hls
theorem J_csi (C : Cx E Y cc nL own Ts R) {idx n maxL mc ms N' : Nat} {y : MethodName} {ws ws' : List Cond} {rm : Room} {bytes : ByteArray} {ret : Option FieldType} {As rest st0 : List Value} {post : Int32 → (Nat → va_E) → Prop} (hd : decode cc pc = .ok (.invokestatic idx, 3)) (hM : CtI E N N' y ws rm mc ms As w post) (hT : GoodIn Ts (va_wsS own idx y ws)) (hw : ws = .code y bytes maxL ret :: ws') (hdm : y.cls ≠ "java/lang/invoke/MethodHandle" ∧ y.cls ≠ "java/lang/invoke/VarHandle" ∧ (parseMethodDescriptor y.desc).map (fun d => d.parameters.length) = some n) (hN : N ≤ N') (hn : As.length = n) (hst : st0 = As.reverse ++ rest) (hW : (rest.map fun v => v.category).sum ≤ 8) (hrm : rmOK rm R maxL mc ms cs ss) (kk : ∀ (r : Int32) (w2 : Nat → va_E), post r w2 → J E Y N' (cs + mc) (ss + ms) w2 (pc + 3) lv (.int r :: rest)) : J E Y N cs ss w pc lv st0 := by
  intro H locs ls hI hls
  subst hst
  have hts := C.2.2.2.2.2.1
  have hK := C.2.2.2.2.2.2.1
  have hR := C.2.2.2.2.2.2.2.1
  have hA := C.2.2.2.2.2.2.2.2.1
  have hf := hI.sub hA
  refine va_calli (va_runS (As := As) (rest := rest) ⟨C.1, C.2.1, C.2.2.1, C.2.2.2.2.1, hts⟩ (hM H.size) (va_cwS n hts hT hw hrm.1 hrm.2.1 hdm (by rw [hR]; exact hrm.2.2.1)) ⟨St.blind, fun U hU hW => ⟨rfl, by rw [hU], hI.toSt hK hU hW⟩⟩ rfl hn hls.1 rfl (lv_room hW) hd (by rw [hR]; exact hrm.2.2.2)) hI.2.2.2.2 (fun q _ h => hf q h) hf (fun r w2 t H1 locs1 ht hvm hp hB hz1 hk1 hS => ?_)
  exact kk r w2 hp H1 locs1 ls (hI.back hA hN ht hB hS) hls
theorem J_cvl (C : Cx E Y cc nL own Ts R) {Cn : String} {T : u_T} {N0 ci idx k b n maxL mc ms N' : Nat} {y : MethodName} {ws ws' : List Cond} {rm : Room} {bytes : ByteArray} {ret : Option FieldType} {fs As rest st0 : List Value} {post : Int64 → (Nat → va_E) → Prop} (hd : decode cc pc = .ok (.invokevirtual idx, 3)) (hM : CtL E N N' y ws rm mc ms (.ref b :: As) w post) (hT : GoodIn Ts (wsV own idx Cn y ws)) (hw : ws = .code y bytes maxL ret :: ws') (hdm : y.cls = Cn ∧ y.cls ≠ "java/lang/invoke/MethodHandle" ∧ y.cls ≠ "java/lang/invoke/VarHandle" ∧ (parseMethodDescriptor y.desc).map (fun d => d.parameters.length) = some n) (hc : vwCl[ci]? = some (Cn, T, N0)) (hk : k < N) (hb : b = eA E k) (hwk : w k = .inr (ci, fs)) (hN : N ≤ N') (hn : As.length = n) (hst : st0 = As.reverse ++ .ref b :: rest) (hW : (rest.map fun v => v.category).sum ≤ 8) (hrm : rmOK rm R maxL mc ms cs ss) (kk : ∀ (r : Int64) (w2 : Nat → va_E), post r w2 → J E Y N' (cs + mc) (ss + ms) w2 (pc + 3) lv (.long r :: rest)) : J E Y N cs ss w pc lv st0 := by
  intro H locs ls hI hls
  subst hst
  have hts := C.2.2.2.2.2.1
  have hK := C.2.2.2.2.2.2.1
  have hR := C.2.2.2.2.2.2.2.1
  have hA := C.2.2.2.2.2.2.2.2.1
  have he : (wsF N (eA E) w)[k]? = some (b, .inr (ci, fs)) := by rw [wsF_get _ _ hk, hwk, hb]
  have hf := hI.sub hA
  refine va_calll (va_runV (As := As) (rest := rest) ⟨C.1, C.2.1, C.2.2.1, C.2.2.2.2.1, hts⟩ (hM H.size) (cwV n hts hT hw hrm.1 hrm.2.1 hdm (by rw [hR]; exact hrm.2.2.1)) ⟨St.blind, va_recv hK hI.1 hc he, fun U hU hW => ⟨rfl, by rw [hU], hI.toSt hK hU hW⟩⟩ rfl hn hls.1 rfl (lv_room hW) hd (by rw [hR]; exact hrm.2.2.2)) hI.2.2.2.2 (fun q _ h => hf q h) hf (fun r w2 t H1 locs1 ht hvm hp hB hz1 hk1 hS => ?_)
  exact kk r w2 hp H1 locs1 ls (hI.back hA hN ht hB hS) hls
theorem J_csl (C : Cx E Y cc nL own Ts R) {idx n maxL mc ms N' : Nat} {y : MethodName} {ws ws' : List Cond} {rm : Room} {bytes : ByteArray} {ret : Option FieldType} {As rest st0 : List Value} {post : Int64 → (Nat → va_E) → Prop} (hd : decode cc pc = .ok (.invokestatic idx, 3)) (hM : CtL E N N' y ws rm mc ms As w post) (hT : GoodIn Ts (va_wsS own idx y ws)) (hw : ws = .code y bytes maxL ret :: ws') (hdm : y.cls ≠ "java/lang/invoke/MethodHandle" ∧ y.cls ≠ "java/lang/invoke/VarHandle" ∧ (parseMethodDescriptor y.desc).map (fun d => d.parameters.length) = some n) (hN : N ≤ N') (hn : As.length = n) (hst : st0 = As.reverse ++ rest) (hW : (rest.map fun v => v.category).sum ≤ 8) (hrm : rmOK rm R maxL mc ms cs ss) (kk : ∀ (r : Int64) (w2 : Nat → va_E), post r w2 → J E Y N' (cs + mc) (ss + ms) w2 (pc + 3) lv (.long r :: rest)) : J E Y N cs ss w pc lv st0 := by
  intro H locs ls hI hls
  subst hst
  have hts := C.2.2.2.2.2.1
  have hK := C.2.2.2.2.2.2.1
  have hR := C.2.2.2.2.2.2.2.1
  have hA := C.2.2.2.2.2.2.2.2.1
  have hf := hI.sub hA
  refine va_calll (va_runS (As := As) (rest := rest) ⟨C.1, C.2.1, C.2.2.1, C.2.2.2.2.1, hts⟩ (hM H.size) (va_cwS n hts hT hw hrm.1 hrm.2.1 hdm (by rw [hR]; exact hrm.2.2.1)) ⟨St.blind, fun U hU hW => ⟨rfl, by rw [hU], hI.toSt hK hU hW⟩⟩ rfl hn hls.1 rfl (lv_room hW) hd (by rw [hR]; exact hrm.2.2.2)) hI.2.2.2.2 (fun q _ h => hf q h) hf (fun r w2 t H1 locs1 ht hvm hp hB hz1 hk1 hS => ?_)
  exact kk r w2 hp H1 locs1 ls (hI.back hA hN ht hB hS) hls
theorem J_cvv (C : Cx E Y cc nL own Ts R) {Cn : String} {T : u_T} {N0 ci idx k b n maxL mc ms N' : Nat} {y : MethodName} {ws ws' : List Cond} {rm : Room} {bytes : ByteArray} {ret : Option FieldType} {fs As rest st0 : List Value} {post : (Nat → va_E) → Prop} (hd : decode cc pc = .ok (.invokevirtual idx, 3)) (hM : CtV E N N' y ws rm mc ms (.ref b :: As) w post) (hT : GoodIn Ts (wsV own idx Cn y ws)) (hw : ws = .code y bytes maxL ret :: ws') (hdm : y.cls = Cn ∧ y.cls ≠ "java/lang/invoke/MethodHandle" ∧ y.cls ≠ "java/lang/invoke/VarHandle" ∧ (parseMethodDescriptor y.desc).map (fun d => d.parameters.length) = some n) (hc : vwCl[ci]? = some (Cn, T, N0)) (hk : k < N) (hb : b = eA E k) (hwk : w k = .inr (ci, fs)) (hN : N ≤ N') (hn : As.length = n) (hst : st0 = As.reverse ++ .ref b :: rest) (hW : (rest.map fun v => v.category).sum ≤ 8) (hrm : rmOK rm R maxL mc ms cs ss) (kk : ∀ w2 : Nat → va_E, post w2 → J E Y N' (cs + mc) (ss + ms) w2 (pc + 3) lv (rest)) : J E Y N cs ss w pc lv st0 := by
  intro H locs ls hI hls
  subst hst
  have hts := C.2.2.2.2.2.1
  have hK := C.2.2.2.2.2.2.1
  have hR := C.2.2.2.2.2.2.2.1
  have hA := C.2.2.2.2.2.2.2.2.1
  have he : (wsF N (eA E) w)[k]? = some (b, .inr (ci, fs)) := by rw [wsF_get _ _ hk, hwk, hb]
  have hf := hI.sub hA
  refine va_callv (va_runV (As := As) (rest := rest) ⟨C.1, C.2.1, C.2.2.1, C.2.2.2.2.1, hts⟩ (hM H.size) (cwV n hts hT hw hrm.1 hrm.2.1 hdm (by rw [hR]; exact hrm.2.2.1)) ⟨St.blind, va_recv hK hI.1 hc he, fun U hU hW => ⟨rfl, by rw [hU], hI.toSt hK hU hW⟩⟩ rfl hn hls.1 rfl (lv_room hW) hd (by rw [hR]; exact hrm.2.2.2)) hI.2.2.2.2 (fun q _ h => hf q h) hf (fun w2 t H1 locs1 ht hvm hp hB hz1 hk1 hS => ?_)
  exact kk w2 hp H1 locs1 ls (hI.back hA hN ht hB hS) hls
theorem J_csv (C : Cx E Y cc nL own Ts R) {idx n maxL mc ms N' : Nat} {y : MethodName} {ws ws' : List Cond} {rm : Room} {bytes : ByteArray} {ret : Option FieldType} {As rest st0 : List Value} {post : (Nat → va_E) → Prop} (hd : decode cc pc = .ok (.invokestatic idx, 3)) (hM : CtV E N N' y ws rm mc ms As w post) (hT : GoodIn Ts (va_wsS own idx y ws)) (hw : ws = .code y bytes maxL ret :: ws') (hdm : y.cls ≠ "java/lang/invoke/MethodHandle" ∧ y.cls ≠ "java/lang/invoke/VarHandle" ∧ (parseMethodDescriptor y.desc).map (fun d => d.parameters.length) = some n) (hN : N ≤ N') (hn : As.length = n) (hst : st0 = As.reverse ++ rest) (hW : (rest.map fun v => v.category).sum ≤ 8) (hrm : rmOK rm R maxL mc ms cs ss) (kk : ∀ w2 : Nat → va_E, post w2 → J E Y N' (cs + mc) (ss + ms) w2 (pc + 3) lv (rest)) : J E Y N cs ss w pc lv st0 := by
  intro H locs ls hI hls
  subst hst
  have hts := C.2.2.2.2.2.1
  have hK := C.2.2.2.2.2.2.1
  have hR := C.2.2.2.2.2.2.2.1
  have hA := C.2.2.2.2.2.2.2.2.1
  have hf := hI.sub hA
  refine va_callv (va_runS (As := As) (rest := rest) ⟨C.1, C.2.1, C.2.2.1, C.2.2.2.2.1, hts⟩ (hM H.size) (va_cwS n hts hT hw hrm.1 hrm.2.1 hdm (by rw [hR]; exact hrm.2.2.1)) ⟨St.blind, fun U hU hW => ⟨rfl, by rw [hU], hI.toSt hK hU hW⟩⟩ rfl hn hls.1 rfl (lv_room hW) hd (by rw [hR]; exact hrm.2.2.2)) hI.2.2.2.2 (fun q _ h => hf q h) hf (fun w2 t H1 locs1 ht hvm hp hB hz1 hk1 hS => ?_)
  exact kk w2 hp H1 locs1 ls (hI.back hA hN ht hB hS) hls
def lvA : List Value → List (Option Value)
  | [] => []
  | v :: t => if v.category = 2 then some v :: none :: lvA t else some v :: lvA t
theorem lvA_at (av : List Value) : ∀ (b i : Nat) (v : Value), (lvA av)[i]? = some (some v) → (b + i, v) ∈ lv_args b av := by
  induction av with
  | nil => intro b i v h; simp [lvA] at h
  | cons x t ih =>
    intro b i v h
    by_cases hx : x.category = 2
    · simp only [lvA, lv_args, if_pos hx] at h ⊢
      match i, h with
      | 0, h => simp at h; subst h; simp
      | 1, h => simp at h
      | i + 2, h =>
        have := ih (b + 2) i v (by simpa using h)
        rw [show b + 2 + i = b + (i + 2) by omega] at this
        exact List.mem_cons_of_mem _ this
    · simp only [lvA, lv_args, if_neg hx] at h ⊢
      match i, h with
      | 0, h => simp at h; subst h; simp
      | i + 1, h =>
        have := ih (b + 1) i v (by simpa using h)
        rw [show b + 1 + i = b + (i + 1) by omega] at this
        exact List.mem_cons_of_mem _ this
theorem lvH_entry {av : List Value} {n : Nat} {lv : List (Option Value)} (h : (lg_sl av).length ≤ n) (hlv : ∀ (i : Nat) (v : Value), lv[i]? = some (some v) → (lvA av)[i]? = some (some v)) : lvH ((lg_sl av ++ List.replicate (n - (lg_sl av).length) Slot.unset).toArray) n lv := by
  have h1 := lv_entry av h
  refine ⟨h1.1, h1.2.1, fun i v hv => ?_⟩
  have := lvA_at av 0 i v (hlv i v hv)
  rw [Nat.zero_add] at this
  exact h1.2.2 (i, v) this
/-- an initial list of locals, padded with what isn't known -/
theorem lv_pad {l : List (Option Value)} {n i : Nat} {v : Value} (h : (l ++ List.replicate n none)[i]? = some (some v)) : l[i]? = some (some v) := by
  rw [List.getElem?_append] at h
  split at h
  · exact h
  · rw [List.getElem?_replicate] at h
    split at h <;> cases h
end JR
theorem CtI_of {E : EN} {N N' mc ms nL : Nat} {y : MethodName} {ws ws' : List Cond} {rm : Room} {av : List Value} {w : Nat → va_E} {post : Int32 → (Nat → va_E) → Prop} {cc : ByteArray} (own : String) (lv0 : List (Option Value)) (hrm : rm.cells = mc ∧ rm.slots = ms) (hy : plainName y.cls = true) (ho : y.cls = own) (hw : ws = .code y cc nL (some .int) :: ws') (hav : (lg_sl av).length ≤ nL) (hlv : ∃ n, lv0 = lvA av ++ List.replicate n none) (hE : ∀ k, eS E k = true → k < eN E)
  (body : ∀ Y : YN, Cx E Y cc nL own ws rm → (∀ (w2 : Nat → va_E) (pc : Nat) (lv : List (Option Value)) (v : Int32), decode cc pc = .ok (.ireturn, 1) → post v w2 → J E Y N' mc ms w2 pc lv [.int v]) → J E Y N 0 0 w 0 lv0 []) : CtI E N N' y ws rm mc ms av w post := by
  intro sz
  refine Met.ofW (cc := cc) (maxL := nL) (ret := (some .int)) hy hw ?_
  intro p e s m args below meth c s₁ B hml hv
  obtain ⟨rfl, hsz, hP, hK, hInj, hFut⟩ := hv
  have hts := atoms_spec (ws := ws) B.pre
  have hown : s.vm.findClass own = some m.cls := by rw [← ho]; exact findClass_of_methodNamed B.named
  have hlocks := B.notSynchronized
  subst hsz
  rw [lg_entry_eq]
  obtain ⟨n0, rfl⟩ := hlv
  have hl := lvH_entry (lv := lvA av ++ List.replicate n0 none) hav (fun i v h => lv_pad h)
  generalize (lg_sl av ++ List.replicate (nL - (lg_sl av).length) Slot.unset).toArray = ls at hl ⊢
  have hA : ∀ q : Nat, s.heap.size ≤ q → AF E N s.heap.size q := fun q h => Or.inr h
  have hb := body (p, e, (headSpec ws rm).room, s, m, av.toArray, below, meth, c, nL, AF E N s.heap.size, MQ below (va_Qi post (fun w' t => St E N' w' t) (AF E N s.heap.size)) av.toArray s mc ms (AF E N s.heap.size))  ⟨B.exec, B.bytes, hml, rfl, hown, hts, hK, rfl, hA, hE⟩ ?_
  · exact hb s.heap [] ls ⟨hP, hInj, fun i hi => Or.inl ⟨i, hi, rfl⟩, hFut, va_S.rf⟩ hl
  · intro w2 pc lv v hd hpost H locs ls hI hls
    have hr := B.returns
    skip
    skip
    skip
    exact W.iret B.exec B.bytes hr (fun t ht hW => ⟨⟨v, w2, rfl, hpost, by rw [ht]; exact hI.1, va_K.moved hW.alike hK, hI.2.1, by rw [ht]; exact hI.2.2.2.1⟩, hI.2.2.2.2.F ht⟩) hI.2.2.2.2.2.2 hd hlocks
theorem CtZ_of {E : EN} {N N' mc ms nL : Nat} {y : MethodName} {ws ws' : List Cond} {rm : Room} {av : List Value} {w : Nat → va_E} {post : Int32 → (Nat → va_E) → Prop} {cc : ByteArray} (own : String) (lv0 : List (Option Value)) (hrm : rm.cells = mc ∧ rm.slots = ms) (hy : plainName y.cls = true) (ho : y.cls = own) (hw : ws = .code y cc nL (some .boolean) :: ws') (hav : (lg_sl av).length ≤ nL) (hlv : ∃ n, lv0 = lvA av ++ List.replicate n none) (hE : ∀ k, eS E k = true → k < eN E)
  (body : ∀ Y : YN, Cx E Y cc nL own ws rm → (∀ (w2 : Nat → va_E) (pc : Nat) (lv : List (Option Value)) (v : Int32), decode cc pc = .ok (.ireturn, 1) → vp_nar .boolean v = v → post v w2 → J E Y N' mc ms w2 pc lv [.int v]) → J E Y N 0 0 w 0 lv0 []) : CtI E N N' y ws rm mc ms av w post := by
  intro sz
  refine Met.ofW (cc := cc) (maxL := nL) (ret := (some .boolean)) hy hw ?_
  intro p e s m args below meth c s₁ B hml hv
  obtain ⟨rfl, hsz, hP, hK, hInj, hFut⟩ := hv
  have hts := atoms_spec (ws := ws) B.pre
  have hown : s.vm.findClass own = some m.cls := by rw [← ho]; exact findClass_of_methodNamed B.named
  have hlocks := B.notSynchronized
  subst hsz
  rw [lg_entry_eq]
  obtain ⟨n0, rfl⟩ := hlv
  have hl := lvH_entry (lv := lvA av ++ List.replicate n0 none) hav (fun i v h => lv_pad h)
  generalize (lg_sl av ++ List.replicate (nL - (lg_sl av).length) Slot.unset).toArray = ls at hl ⊢
  have hA : ∀ q : Nat, s.heap.size ≤ q → AF E N s.heap.size q := fun q h => Or.inr h
  have hb := body (p, e, (headSpec ws rm).room, s, m, av.toArray, below, meth, c, nL, AF E N s.heap.size, MQ below (va_Qi post (fun w' t => St E N' w' t) (AF E N s.heap.size)) av.toArray s mc ms (AF E N s.heap.size))  ⟨B.exec, B.bytes, hml, rfl, hown, hts, hK, rfl, hA, hE⟩ ?_
  · exact hb s.heap [] ls ⟨hP, hInj, fun i hi => Or.inl ⟨i, hi, rfl⟩, hFut, va_S.rf⟩ hl
  · intro w2 pc lv v hd hnz hpost H locs ls hI hls
    have hr := B.returns
    have hnw : narrow .boolean (.int v) = .int v := by
      have e9 : narrow .boolean (.int v) = .int (vp_nar .boolean v) := by simp [vp_nar, narrow]
      rw [e9, hnz]
    exact W.zret B.exec B.bytes hr hnw (fun t ht hW => ⟨⟨v, w2, rfl, hpost, by rw [ht]; exact hI.1, va_K.moved hW.alike hK, hI.2.1, by rw [ht]; exact hI.2.2.2.1⟩, hI.2.2.2.2.F ht⟩) hI.2.2.2.2.2.2 hd hlocks
theorem CtL_of {E : EN} {N N' mc ms nL : Nat} {y : MethodName} {ws ws' : List Cond} {rm : Room} {av : List Value} {w : Nat → va_E} {post : Int64 → (Nat → va_E) → Prop} {cc : ByteArray} (own : String) (lv0 : List (Option Value)) (hrm : rm.cells = mc ∧ rm.slots = ms) (hy : plainName y.cls = true) (ho : y.cls = own) (hw : ws = .code y cc nL (some .long) :: ws') (hav : (lg_sl av).length ≤ nL) (hlv : ∃ n, lv0 = lvA av ++ List.replicate n none) (hE : ∀ k, eS E k = true → k < eN E)
  (body : ∀ Y : YN, Cx E Y cc nL own ws rm → (∀ (w2 : Nat → va_E) (pc : Nat) (lv : List (Option Value)) (v : Int64), decode cc pc = .ok (.lreturn, 1) → post v w2 → J E Y N' mc ms w2 pc lv [.long v]) → J E Y N 0 0 w 0 lv0 []) : CtL E N N' y ws rm mc ms av w post := by
  intro sz
  refine Met.ofW (cc := cc) (maxL := nL) (ret := (some .long)) hy hw ?_
  intro p e s m args below meth c s₁ B hml hv
  obtain ⟨rfl, hsz, hP, hK, hInj, hFut⟩ := hv
  have hts := atoms_spec (ws := ws) B.pre
  have hown : s.vm.findClass own = some m.cls := by rw [← ho]; exact findClass_of_methodNamed B.named
  have hlocks := B.notSynchronized
  subst hsz
  rw [lg_entry_eq]
  obtain ⟨n0, rfl⟩ := hlv
  have hl := lvH_entry (lv := lvA av ++ List.replicate n0 none) hav (fun i v h => lv_pad h)
  generalize (lg_sl av ++ List.replicate (nL - (lg_sl av).length) Slot.unset).toArray = ls at hl ⊢
  have hA : ∀ q : Nat, s.heap.size ≤ q → AF E N s.heap.size q := fun q h => Or.inr h
  have hb := body (p, e, (headSpec ws rm).room, s, m, av.toArray, below, meth, c, nL, AF E N s.heap.size, MQ below (va_Ql post (fun w' t => St E N' w' t) (AF E N s.heap.size)) av.toArray s mc ms (AF E N s.heap.size))  ⟨B.exec, B.bytes, hml, rfl, hown, hts, hK, rfl, hA, hE⟩ ?_
  · exact hb s.heap [] ls ⟨hP, hInj, fun i hi => Or.inl ⟨i, hi, rfl⟩, hFut, va_S.rf⟩ hl
  · intro w2 pc lv v hd hpost H locs ls hI hls
    have hr := B.returns
    skip
    skip
    skip
    exact W.lret B.exec B.bytes hr (fun t ht hW => ⟨⟨v, w2, rfl, hpost, by rw [ht]; exact hI.1, va_K.moved hW.alike hK, hI.2.1, by rw [ht]; exact hI.2.2.2.1⟩, hI.2.2.2.2.F ht⟩) hI.2.2.2.2.2.2 hd hlocks
theorem CtV_of {E : EN} {N N' mc ms nL : Nat} {y : MethodName} {ws ws' : List Cond} {rm : Room} {av : List Value} {w : Nat → va_E} {post : (Nat → va_E) → Prop} {cc : ByteArray} (own : String) (lv0 : List (Option Value)) (hrm : rm.cells = mc ∧ rm.slots = ms) (hy : plainName y.cls = true) (ho : y.cls = own) (hw : ws = .code y cc nL none :: ws') (hav : (lg_sl av).length ≤ nL) (hlv : ∃ n, lv0 = lvA av ++ List.replicate n none) (hE : ∀ k, eS E k = true → k < eN E)
  (body : ∀ Y : YN, (yM Y).name = y.name → Cx E Y cc nL own ws rm → (∀ (w2 : Nat → va_E) (pc : Nat) (lv : List (Option Value)), decode cc pc = .ok (.return_, 1) → post w2 → J E Y N' mc ms w2 pc lv []) → J E Y N 0 0 w 0 lv0 []) : CtV E N N' y ws rm mc ms av w post := by
  intro sz
  refine Met.ofW (cc := cc) (maxL := nL) (ret := none) hy hw ?_
  intro p e s m args below meth c s₁ B hml hv
  obtain ⟨rfl, hsz, hP, hK, hInj, hFut⟩ := hv
  have hts := atoms_spec (ws := ws) B.pre
  have hown : s.vm.findClass own = some m.cls := by rw [← ho]; exact findClass_of_methodNamed B.named
  have hlocks := B.notSynchronized
  subst hsz
  rw [lg_entry_eq]
  obtain ⟨n0, rfl⟩ := hlv
  have hl := lvH_entry (lv := lvA av ++ List.replicate n0 none) hav (fun i v h => lv_pad h)
  generalize (lg_sl av ++ List.replicate (nL - (lg_sl av).length) Slot.unset).toArray = ls at hl ⊢
  have hA : ∀ q : Nat, s.heap.size ≤ q → AF E N s.heap.size q := fun q h => Or.inr h
  have hb := body (p, e, (headSpec ws rm).room, s, m, av.toArray, below, meth, c, nL, AF E N s.heap.size, MQ below (va_Qv post (fun w' t => St E N' w' t) (AF E N s.heap.size)) av.toArray s mc ms (AF E N s.heap.size)) (name_of_methodNamed B.named B.method).1 ⟨B.exec, B.bytes, hml, rfl, hown, hts, hK, rfl, hA, hE⟩ ?_
  · exact hb s.heap [] ls ⟨hP, hInj, fun i hi => Or.inl ⟨i, hi, rfl⟩, hFut, va_S.rf⟩ hl
  · intro w2 pc lv hd hpost H locs ls hI hls
    have hr := B.returns
    skip
    skip
    skip
    exact W.vret B.exec B.bytes hr (fun t ht hW => ⟨⟨w2, rfl, hpost, by rw [ht]; exact hI.1, va_K.moved hW.alike hK, hI.2.1, by rw [ht]; exact hI.2.2.2.1⟩, hI.2.2.2.2.F ht⟩) hI.2.2.2.2.2.2 hd hlocks
