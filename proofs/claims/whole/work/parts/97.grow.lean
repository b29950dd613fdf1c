section KG
variable {E : EN} {Y : YN} {cc : ByteArray} {nL : Nat} {own : String} {Ts : List Cond} {R : Room} {N cs ss : Nat} {w : Nat → va_E} {pc : Nat} {lv : List (Option Value)} {st : List Value}
theorem outer_is (c : ClassId) (N h0 : Nat) : ∀ i : Nat, Jvm.Free.Multi.outerC c N h0 i = arrV c N (fun j => va_rf (if j < i then some (h0 + 1 + j) else none))
  | 0 => by
    show ({ cls := c, slots := Array.replicate N .null, vm := .none } : Cell) = _
    rw [arrV_new]
    refine congrArg (arrV c N) (funext fun j => ?_)
    simp [va_rf]
  | i + 1 => by
    show (Jvm.Free.Multi.outerC c N h0 i).setSlot i (.ref (h0 + 1 + i)) = _
    rw [outer_is c N h0 i, arrV_store]
    refine congrArg (arrV c N) (funext fun j => ?_)
    by_cases e : j = i
    · subst e
      simp [updV, va_rf]
    · by_cases h : j < i
      · simp [updV, e, h, Nat.lt_succ_of_lt h]
      · simp [updV, e, h, show ¬ j < i + 1 by omega]
def wG (E : EN) (w : Nat → va_E) (N n k : Nat) : Nat → va_E := fun i => if i = N then .inl (eC E 4, n, qRow (fun j => if j < n then some (eA E (N + 1 + j)) else none)) else if N < i ∧ i < N + 1 + n then .inl (eC E 1, k, .inr (.inl (fun _ => 0))) else w i
theorem J_grid (C : Cx E Y cc nL own Ts R) (hZ : ZW (ys Y)) {idx : Nat} {n k : Int32} (N' K' : Nat) (hdg : decode cc pc = .ok (.multianewarray idx 2, 4)) (hl : Cond.classLink own idx ("[" ++ (FieldType.array .long).toString) ∈ Ts) (harr : Cond.arrayClass .long ∈ Ts) (hn : ¬ n < 0) (hk : ¬ k < 0) (hN : n.toNatClampNeg = N') (hM : k.toNatClampNeg = K') (hb1 : N' * 4 ≤ 536870912) (hb2 : K' * componentBytes .long ≤ 536870912) (hb3 : K' ≤ 536870912) (hcells : cs + (1 + N') ≤ R.cells) (hslots : ss + (N' + N' * K') ≤ R.slots) (kk : J E Y (N + 1 + N') (cs + 1 + N') (ss + N' + N' * K') (wG E w N N' K') (pc + 4) lv (.ref (eA E N) :: st)) : J E Y N cs ss w pc lv (.int k :: .int n :: st) := by
  intro H locs ls hI hls
  have hts := C.2.2.2.2.2.1
  have hR := C.2.2.2.2.2.2.2.1
  have hK := C.2.2.2.2.2.2.1
  have hA := C.2.2.2.2.2.2.2.2.1
  subst hN
  subst hM
  intro T hT Xs
  obtain ⟨vm₁, cA, comp, -, fA, fC, hO, -, X', step⟩ := Xs.multianewarray2F C.1 C.2.2.2.2.1 (hts _ hl) hZ.2.2.2.2.2 (hts _ harr) (g := F0 (ym Y) pc ls (.int k :: .int n :: st)) rfl (by rw [C.2.1]; exact hdg) rfl hn hk hb1 hb2 hb3 rfl rfl (by rw [hR]; exact hcells) (by rw [hR]; exact hslots)
  have ecA : cA = eC E 4 := Option.some.inj (fA.symm.trans (hK.2 4 (eC E 4, .array .long) rfl).2)
  have ecC : comp = eC E 1 := Option.some.inj (fC.symm.trans (hK.2 1 (eC E 1, .long) rfl).2)
  subst ecA
  subst ecC
  generalize hF : Jvm.Free.Multi.fill (T.setVm vm₁) (eC E 4) (eC E 1) n.toNatClampNeg k.toNatClampNeg (defaultValue .long) n.toNatClampNeg = F at X' step
  have hTh : (T.setVm vm₁).heap = H := hT
  obtain ⟨f1, f2, -, -⟩ := Jvm.Free.Multi.fill_facts (T.setVm vm₁) (eC E 4) (eC E 1) n.toNatClampNeg k.toNatClampNeg (defaultValue .long) n.toNatClampNeg
  rw [hF, hTh] at f1 f2
  have hold : ∀ x : Nat, x < H.size → F.heap[x]? = H[x]? := fun x hx => by
    have := Jvm.Free.Multi.fill_old (T.setVm vm₁) (eC E 4) (eC E 1) n.toNatClampNeg k.toNatClampNeg (defaultValue .long) (a := x) (by rw [hTh]; exact hx) n.toNatClampNeg
    rw [hF, hTh] at this
    exact this
  have hrow : ∀ j : Nat, j < n.toNatClampNeg → F.heap[H.size + 1 + j]? = some (vp_cell (eC E 1) (k.toNatClampNeg, .inr (.inl (fun _ => 0)))) := fun j hj => by
    have := Jvm.Free.Multi.fill_inner (T.setVm vm₁) (eC E 4) (eC E 1) n.toNatClampNeg k.toNatClampNeg (defaultValue .long) n.toNatClampNeg j hj
    rw [hF, hTh] at this
    rw [this]
    show some ({ cls := eC E 1, slots := Array.replicate k.toNatClampNeg (defaultValue .long), vm := .none } : Cell) = some (arrV (eC E 1) k.toNatClampNeg (fun _ => .long 0))
    rw [arrV_new]
    rfl
  rw [outer_is] at f2
  have hfut : ∀ i, eA E (N + i) = H.size + i := hI.2.2.2.1
  have hlt : ∀ i, i < N → eA E i < H.size := fun i hi => (hI.1 i _ (wsF_get _ _ hi)).lt
  have hInv : Inv E Y (N + 1 + n.toNatClampNeg) (wG E w N n.toNatClampNeg k.toNatClampNeg) F.heap locs := by
    refine ⟨fun i q hq => ?_, fun i j hi hj hij => ?_, fun i hi => ?_, fun i => ?_, ?_⟩
    · obtain ⟨h1, rfl⟩ := wsF_of hq
      unfold wG
      by_cases e1 : i = N
      · subst e1
        rw [if_pos rfl]
        have h0 : eA E i = H.size := by have := hfut 0; simpa using this
        show F.heap[eA E i]? = some (vp_cell (eC E 4) (n.toNatClampNeg, .inr (.inr (.inr (.inr (fun j => if j < n.toNatClampNeg then some (eA E (i + 1 + j)) else none))))))
        rw [h0, f2, vp_cell_q]
        congr 2
        funext j
        rw [show i + 1 + j = i + (1 + j) by omega, hfut, show H.size + (1 + j) = H.size + 1 + j by omega]
      · rw [if_neg e1]
        by_cases e2 : N < i ∧ i < N + 1 + n.toNatClampNeg
        · rw [if_pos e2]
          have h0 : eA E i = H.size + 1 + (i - N - 1) := by
            have := hfut (i - N)
            rw [show N + (i - N) = i by omega] at this
            omega
          show F.heap[eA E i]? = _
          rw [h0]
          exact hrow _ (by omega)
        · rw [if_neg e2]
          exact (hI.1 i _ (wsF_get _ _ (by omega))).kept (hold _ (hlt i (by omega)))
    · by_cases h1 : i < N
      · by_cases h2 : j < N
        · exact hI.2.1 i j h1 h2 hij
        · have a1 := hlt i h1
          have a2 := hfut (j - N)
          rw [show N + (j - N) = j by omega] at a2
          omega
      · by_cases h2 : j < N
        · have a1 := hlt j h2
          have a2 := hfut (i - N)
          rw [show N + (i - N) = i by omega] at a2
          omega
        · have a1 := hfut (i - N)
          have a2 := hfut (j - N)
          rw [show N + (i - N) = i by omega] at a1
          rw [show N + (j - N) = j by omega] at a2
          omega
    · by_cases h1 : i < N
      · exact hI.2.2.1 i h1
      · have a1 := hfut (i - N)
        rw [show N + (i - N) = i by omega] at a1
        rw [a1]
        exact hA _ (by have := hI.2.2.2.2.1; omega)
    · have := hfut (1 + n.toNatClampNeg + i)
      rw [show N + (1 + n.toNatClampNeg + i) = N + 1 + n.toNatClampNeg + i by omega] at this
      rw [this, f1]
      omega
    · exact ⟨by rw [f1]; have := hI.2.2.2.2.1; omega, fun x h1 h2 => (hold x (Nat.lt_of_lt_of_le h1 hI.2.2.2.2.1)).trans (hI.2.2.2.2.2.1 x h1 h2), hI.2.2.2.2.2.2⟩
  obtain ⟨t, a1, b1⟩ := kk F.heap locs ls hInv hls F rfl X'
  refine ⟨t, step t ?_, b1⟩
  have e : T.heap.size = eA E N := by
    have := hfut 0
    rw [hT]
    simpa using this.symm
  rw [e]
  exact a1
/-- rows of references that agree where they are read -/
theorem J_q {w' : Nat → va_E} (kx : Nat) (c : ClassId) (n : Nat) (f f' : Nat → Option Nat) (hw : w kx = .inl (c, n, qRow f)) (hw' : w' kx = .inl (c, n, qRow f')) (hf : ∀ j, j < n → f j = f' j) (h : ∀ k, k < N → k ≠ kx → w k = w' k) (k : J E Y N cs ss w' pc lv st) : J E Y N cs ss w pc lv st := fun H locs ls hI hl => k H locs ls ⟨fun i q hq => by
  obtain ⟨h1, rfl⟩ := wsF_of hq
  have h0 := hI.1 i _ (wsF_get _ _ h1)
  by_cases e : i = kx
  · subst e
    rw [hw] at h0
    rw [hw']
    have h0 : H[eA E i]? = some (vp_cell c (n, .inr (.inr (.inr (.inr f))))) := h0
    show H[eA E i]? = some (vp_cell c (n, .inr (.inr (.inr (.inr f')))))
    rw [h0, vp_cell_q, vp_cell_q]
    unfold arrV
    congr 3
    funext j
    show va_rf (f j) = va_rf (f' j)
    rw [hf j j.isLt]
  · rw [← h i h1 e]
    exact h0, hI.2⟩ hl
def wL (w : Nat → va_E) (r ci : Nat) (fs : List Value) (l : List va_E) : Nat → va_E := fun k => if k < r then w k else if k = r then .inr (ci, fs) else l.getD (k - r - 1) (.inr (ci, fs))
theorem wL_eq {r ci : Nat} {fs : List Value} {l : List va_E} {k : Nat} : wL w r ci fs l k = if k < r then w k else if k = r then .inr (ci, fs) else l.getD (k - r - 1) (.inr (ci, fs)) := rfl
theorem wL_lt {r ci : Nat} {fs : List Value} {l : List va_E} {k : Nat} (h : k < r) : wL w r ci fs l k = w k := if_pos h
theorem wL_r {r ci : Nat} {fs : List Value} {l : List va_E} : wL w r ci fs l r = .inr (ci, fs) := by
  unfold wL
  rw [if_neg (Nat.lt_irrefl r), if_pos rfl]
theorem wL_at {r ci : Nat} {fs : List Value} {l : List va_E} (i : Nat) (e : va_E) (h : l[i]? = some e) : wL w r ci fs l (r + 1 + i) = e := by
  unfold wL
  rw [if_neg (by omega), if_neg (by omega), show r + 1 + i - r - 1 = i by omega, List.getD_eq_getElem?_getD, h]
  rfl
theorem wL_put {r ci : Nat} {fs fs' : List Value} {l : List va_E} (k : Nat) (hk : k < r + 1 + l.length) : va_up (wL w r ci fs l) r (.inr (ci, fs')) k = wL w r ci fs' l k := by
  have h0 : va_up (wL w r ci fs l) r (.inr (ci, fs')) k = if k = r then .inr (ci, fs') else wL w r ci fs l k := rfl
  rw [h0, wL_eq, wL_eq]
  by_cases h1 : k < r
  · rw [if_neg (show ¬ k = r by omega), if_pos h1, if_pos h1]
  · by_cases h2 : k = r
    · rw [if_pos h2, if_neg h1, if_pos h2]
    · rw [if_neg h2, if_neg h1, if_neg h2, if_neg h1, if_neg h2, List.getD_eq_getElem?_getD, List.getD_eq_getElem?_getD, List.getElem?_eq_getElem (by omega)]
      rfl
theorem wL_push {r ci : Nat} {fs : List Value} {l : List va_E} {e : va_E} (k : Nat) : va_up (wL w r ci fs l) (r + 1 + l.length) e k = if k < r + 1 + l.length + 1 then wL w r ci fs (l ++ [e]) k else wL w r ci fs l k := by
  have h0 : va_up (wL w r ci fs l) (r + 1 + l.length) e k = if k = r + 1 + l.length then e else wL w r ci fs l k := rfl
  rw [h0]
  by_cases h1 : k = r + 1 + l.length
  · rw [if_pos h1, if_pos (by omega), wL_eq, if_neg (show ¬ k < r by omega), if_neg (show ¬ k = r by omega), show k - r - 1 = l.length by omega, List.getD_eq_getElem?_getD, List.getElem?_append_right (Nat.le_refl _)]
    simp
  · rw [if_neg h1]
    by_cases h2 : k < r + 1 + l.length + 1
    · rw [if_pos h2, wL_eq, wL_eq]
      by_cases h3 : k < r
      · rw [if_pos h3, if_pos h3]
      · by_cases h4 : k = r
        · rw [if_neg h3, if_pos h4, if_neg h3, if_pos h4]
        · rw [if_neg h3, if_neg h4, if_neg h3, if_neg h4, List.getD_eq_getElem?_getD, List.getD_eq_getElem?_getD, List.getElem?_append_left (by omega)]
    · rw [if_neg h2]
theorem K_put (C : Cx E Y cc nL own Ts R) {Cn : String} {T : u_T} {N0 ci idx r : Nat} {v : Value} {fs : List Value} {l : List va_E} (j : Nat) (hd : decode cc pc = .ok (.putfield idx, 3)) (hl : Cond.fieldLink own idx Cn (T j).2.1 (T j).2.2.1 ∈ Ts) (hi : ∀ x ∈ u_ws Cn T N0, x ∈ Ts) (ty0 : Nat → FieldType) (hty : ∀ k, k < N0 → parseFieldDescriptor (T k).2.2.1 = some (ty0 k)) (hnm : ∀ a, a < N0 → ∀ b, b < N0 → a ≠ b → (T a).2.1 ≠ (T b).2.1) (hc : vwCl[ci]? = some (Cn, T, N0)) (hN : N = r + 1 + l.length) (hj : j < N0) (hr : (T j).1 = Cn) (hro : (T j).1 = own) (hin2 : (yM Y).name = "<init>") (hn : narrow (ty0 j) v = v) (hfit : fits (ty0 j) v = true) (hlen : j < fs.length) (kk : J E Y N cs ss (wL w r ci (fs.set j v) l) (pc + 3) lv st) : J E Y N cs ss (wL w r ci fs l) pc lv (v :: .ref (eA E r) :: st) := by
  have kk2 : J E Y N cs ss (va_up (wL w r ci fs l) r (.inr (ci, fs.set j v))) (pc + 3) lv st := J_wc (fun k hk => wL_put k (by omega)) kk
  cases hf : (T j).2.2.2 with
  | false => exact J_put C (ty := ty0 j) r j hd hl hi ty0 hty hnm hc (by omega) rfl wL_r hj hr hf (hty j hj) hn hfit hlen kk2
  | true => exact J_putF C (ty := ty0 j) r j hin2 hd hl hi ty0 hty hnm hc (by omega) rfl wL_r hj hr hro hf (hty j hj) hn hfit hlen kk2
theorem K_new0 {r ci : Nat} {fs : List Value} {l : List va_E} {e : va_E} {cs ss : Nat} (hN : N = r + 1 + l.length) (kk : J E Y (N + 1) cs ss (wL w r ci fs (l ++ [e])) pc lv st) : J E Y (N + 1) cs ss (va_up (wL w r ci fs l) N e) pc lv st := by
  subst hN
  exact J_wc (fun k hk => by rw [wL_push, if_pos hk]) kk
theorem K_newa (C : Cx E Y cc nL own Ts R) {n : Int32} (atype : ArrayType) (t0 N' : Nat) (a0 : vp_A) {r ci : Nat} {fs : List Value} {l : List va_E} (m : Nat) (hd : decode cc pc = .ok (.newarray atype, 2)) (harr : Cond.arrayClass (newarray.typeOf atype) ∈ Ts) (ht : (tysOf (eC E))[t0]? = some (eC E t0, newarray.typeOf atype)) (hra : ∀ (U : State) (c : ClassId), va_RA U c (newarray.typeOf atype) = (U.vm.findClass ("[" ++ (newarray.typeOf atype).toString) = some c)) (ha : ∀ cA : ClassId, vp_cell cA a0 = arrV cA N' (fun _ => defaultValue (newarray.typeOf atype))) (hn : n = nI N') (hN' : N' < 1000) (hb : componentBytes (newarray.typeOf atype) ≤ 8) (hcells : cs + 1 ≤ R.cells) (hslots : ss + N' ≤ R.slots) (hN : N = r + 1 + l.length) (hm : N = m) (kk : J E Y (N + 1) (cs + 1) (ss + N') (wL w r ci fs (l ++ [.inl (eC E t0, a0)])) (pc + 2) lv (.ref (eA E m) :: st)) : J E Y N cs ss (wL w r ci fs l) pc lv (.int n :: st) := by
  subst hm
  subst hn
  refine J_newa C atype t0 N' a0 hd harr (eC E t0) ht (fun c h => ?_) ha (nI_pos (by omega)) (nI_clamp (by omega)) (by have := Nat.mul_le_mul (Nat.le_of_lt hN') hb; omega) hcells hslots (K_new0 hN kk)
  have h2 := (C.2.2.2.2.2.2.1.2 t0 _ ht).2
  rw [hra] at h2
  exact Option.some.inj (h.symm.trans h2)
theorem K_put2 (C : Cx E Y cc nL own Ts R) {Cn : String} {T : u_T} {N0 ci idx r : Nat} {v : Value} {fs : List Value} {l : List va_E} (fs' : List Value) (j : Nat) (hd : decode cc pc = .ok (.putfield idx, 3)) (hl : Cond.fieldLink own idx Cn (T j).2.1 (T j).2.2.1 ∈ Ts) (hi : ∀ x ∈ u_ws Cn T N0, x ∈ Ts) (ty0 : Nat → FieldType) (hty : ∀ k, k < N0 → parseFieldDescriptor (T k).2.2.1 = some (ty0 k)) (hnm : ∀ a, a < N0 → ∀ b, b < N0 → a ≠ b → (T a).2.1 ≠ (T b).2.1) (hc : vwCl[ci]? = some (Cn, T, N0)) (hN : N = r + 1 + l.length) (hj : j < N0) (hr : (T j).1 = Cn) (hro : (T j).1 = own) (hin2 : (yM Y).name = "<init>") (hn : narrow (ty0 j) v = v) (hfit : fits (ty0 j) v = true) (hlen : j < fs.length) (hfs : fs.set j v = fs') (kk : J E Y N cs ss (wL w r ci fs' l) (pc + 3) lv st) : J E Y N cs ss (wL w r ci fs l) pc lv (v :: .ref (eA E r) :: st) := by
  subst hfs
  exact K_put C j hd hl hi ty0 hty hnm hc hN hj hr hro hin2 hn hfit hlen kk
theorem K_newa2 (C : Cx E Y cc nL own Ts R) {n : Int32} (atype : ArrayType) (t0 N' : Nat) (a0 : vp_A) {r ci : Nat} {fs : List Value} {l : List va_E} (l' : List va_E) (m : Nat) (hd : decode cc pc = .ok (.newarray atype, 2)) (harr : Cond.arrayClass (newarray.typeOf atype) ∈ Ts) (ht : (tysOf (eC E))[t0]? = some (eC E t0, newarray.typeOf atype)) (hra : ∀ (U : State) (c : ClassId), va_RA U c (newarray.typeOf atype) = (U.vm.findClass ("[" ++ (newarray.typeOf atype).toString) = some c)) (ha : ∀ cA : ClassId, vp_cell cA a0 = arrV cA N' (fun _ => defaultValue (newarray.typeOf atype))) (hn : n = nI N') (hN' : N' < 1000) (hb : componentBytes (newarray.typeOf atype) ≤ 8) (hcells : cs + 1 ≤ R.cells) (hslots : ss + N' ≤ R.slots) (hN : N = r + 1 + l.length) (hm : N = m) (hl' : l ++ [.inl (eC E t0, a0)] = l') (kk : J E Y (N + 1) (cs + 1) (ss + N') (wL w r ci fs l') (pc + 2) lv (.ref (eA E m) :: st)) : J E Y N cs ss (wL w r ci fs l) pc lv (.int n :: st) := by
  subst hl'
  exact K_newa C atype t0 N' a0 m hd harr ht hra ha hn hN' hb hcells hslots hN hm kk
end KG
