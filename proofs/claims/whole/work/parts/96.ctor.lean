/-! constructors: worlds that grow; a world, an object in the making at r, what is allocated behind it -/
def ZW (U : State) : Prop := va_Nw (.methodLinkNest RX5 19 yX2_init RX5) U ∧ va_Nw (.methodLinkNest RX5 36 yX0_init RX5) U ∧ va_Nw (.methodLinkNest RX5 51 yX1_init RX5) U ∧ va_Nw (.methodLinkNest RX5 58 yX4_init RX5) U ∧ va_Nw (.arrayOver (.object RX0)) U ∧ va_Nw (.arrayOver (.array .long)) U
theorem over_warm {ty : FieldType} {s U : State} (hW : s.WarmedH U.vm) (hZ : va_Nw (.arrayOver ty) s) : va_Nw (.arrayOver ty) U := by
  have h1 : (Cond.arrayOver ty).before #[] (s.setVm U.vm) = true := by rw [Cond.arrayOver_setVmC hW.alike]; exact hZ
  exact h1
theorem ZW.warm {s U : State} (hW : s.WarmedH U.vm) (h : ZW s) : ZW U := ⟨h.1.warmM hW, h.2.1.warmM hW, h.2.2.1.warmM hW, h.2.2.2.1.warmM hW, over_warm hW h.2.2.2.2.1, over_warm hW h.2.2.2.2.2⟩
def CtVZ (E : EN) (N N' : Nat) (y : MethodName) (ws : List Cond) (rm : Room) (mc ms : Nat) (av : List Value) (w : Nat → va_E) (post : (Nat → va_E) → Prop) : Prop := ∀ sz : Nat, Met (eL E) y ws rm (va_Pc av (fun U => (U.heap.size = sz ∧ St E N w U) ∧ ZW U)) (va_Qv post (fun w' t => St E N' w' t) (AF E N sz)) mc ms (AF E N sz)

theorem over_same {ty : FieldType} {u U : State} (h : u.vm = U.vm) (hz : va_Nw (.arrayOver ty) u) : va_Nw (.arrayOver ty) U := by
  unfold va_Nw Cond.before Cond.holds at hz ⊢
  simp only [Cond.value] at hz ⊢
  rw [← h]
  exact hz
theorem ZW.same {u U : State} (h : u.vm = U.vm) (hz : ZW u) : ZW U := ⟨va_Nw.same rfl h hz.1, va_Nw.same rfl h hz.2.1, va_Nw.same rfl h hz.2.2.1, va_Nw.same rfl h hz.2.2.2.1, over_same h hz.2.2.2.2.1, over_same h hz.2.2.2.2.2⟩
theorem ZSt.blind {E : EN} {N sz : Nat} {w : Nat → va_E} {av : List Value} : FrameBlind (va_Pc av (fun U => (U.heap.size = sz ∧ St E N w U) ∧ ZW U)) := fun a U g mk q => by
  obtain ⟨q0, ⟨q1, qP, qK, qD⟩, qz⟩ := q
  exact ⟨q0, ⟨q1, qP, va_K.moved (u := U) (U := U.calling g mk a) (Vm.Alike.refl U.vm) qK, qD⟩, ZW.same (u := U) (U := U.calling g mk a) rfl qz⟩
theorem CtVZ_of {E : EN} {N N' mc ms nL : Nat} {y : MethodName} {ws ws' : List Cond} {rm : Room} {av : List Value} {w : Nat → va_E} {post : (Nat → va_E) → Prop} {cc : ByteArray} (own : String) (lv0 : List (Option Value)) (hrm : rm.cells = mc ∧ rm.slots = ms) (hy : plainName y.cls = true) (ho : y.cls = own) (hw : ws = .code y cc nL none :: ws') (hav : (lg_sl av).length ≤ nL) (hlv : ∃ n, lv0 = lvA av ++ List.replicate n none) (hE : ∀ k, eS E k = true → k < eN E)
  (body : ∀ Y : YN, (yM Y).name = y.name → Cx E Y cc nL own ws rm → ZW (ys Y) → (∀ (w2 : Nat → va_E) (pc : Nat) (lv : List (Option Value)), decode cc pc = .ok (.return_, 1) → post w2 → J E Y N' mc ms w2 pc lv []) → J E Y N 0 0 w 0 lv0 []) : CtVZ E N N' y ws rm mc ms av w post := by
  intro sz
  refine Met.ofW (cc := cc) (maxL := nL) (ret := none) hy hw ?_
  intro p e s m args below meth c s₁ B hml hv
  obtain ⟨rfl, ⟨hsz, hP, hK, hInj, hFut⟩, hZ⟩ := hv
  have hts := atoms_spec (ws := ws) B.pre
  have hown : s.vm.findClass own = some m.cls := by rw [← ho]; exact findClass_of_methodNamed B.named
  have hlocks := B.notSynchronized
  subst hsz
  rw [lg_entry_eq]
  obtain ⟨n0, rfl⟩ := hlv
  have hl := lvH_entry (lv := lvA av ++ List.replicate n0 none) hav (fun i v h => lv_pad h)
  generalize (lg_sl av ++ List.replicate (nL - (lg_sl av).length) Slot.unset).toArray = ls at hl ⊢
  have hA : ∀ q : Nat, s.heap.size ≤ q → AF E N s.heap.size q := fun q h => Or.inr h
  have hb := body (p, e, (headSpec ws rm).room, s, m, av.toArray, below, meth, c, nL, AF E N s.heap.size, MQ below (va_Qv post (fun w' t => St E N' w' t) (AF E N s.heap.size)) av.toArray s mc ms (AF E N s.heap.size)) (name_of_methodNamed B.named B.method).1 ⟨B.exec, B.bytes, hml, rfl, hown, hts, hK, rfl, hA, hE⟩ hZ ?_
  · exact hb s.heap [] ls ⟨hP, hInj, fun i hi => Or.inl ⟨i, hi, rfl⟩, hFut, va_S.rf⟩ hl
  · intro w2 pc lv hd hpost H locs ls hI hls
    have hr := B.returns
    exact W.vret B.exec B.bytes hr (fun t ht hW => ⟨⟨w2, rfl, hpost, by rw [ht]; exact hI.1, va_K.moved hW.alike hK, hI.2.1, by rw [ht]; exact hI.2.2.2.1⟩, hI.2.2.2.2.F ht⟩) hI.2.2.2.2.2.2 hd hlocks
section KR
variable {E : EN} {Y : YN} {cc : ByteArray} {nL : Nat} {own : String} {Ts : List Cond} {R : Room} {N cs ss : Nat} {w : Nat → va_E} {pc : Nat} {lv : List (Option Value)} {st : List Value}
theorem J_wc {w' : Nat → va_E} (h : ∀ k, k < N → w k = w' k) (k : J E Y N cs ss w' pc lv st) : J E Y N cs ss w pc lv st := fun H locs ls hI hl => k H locs ls ⟨by rw [← wsF_congr h]; exact hI.1, hI.2⟩ hl
theorem J_isp (C : Cx E Y cc nL own Ts R) (hZ : ZW (ys Y)) {idx b n maxL mc ms N' : Nat} {y : MethodName} {ws ws' : List Cond} {rm : Room} {bytes : ByteArray} {As rest st0 : List Value} {post : (Nat → va_E) → Prop} (hd : decode cc pc = .ok (.invokespecial idx, 3)) (hM : CtVZ E N N' y ws rm mc ms (.ref b :: As) w post) (hT : GoodIn Ts ws) (hw : ws = .code y bytes maxL none :: ws') (hini : Cond.initialized y.cls ∈ Ts) (hl : Cond.methodLink own idx y ∈ Ts) (hin : Cond.instanceMethod y ∈ Ts) (hy1 : y.name = "<init>") (hdm : y.cls ≠ "java/lang/invoke/MethodHandle" ∧ y.cls ≠ "java/lang/invoke/VarHandle" ∧ (parseMethodDescriptor y.desc).map (fun d => d.parameters.length) = some n) (hN : N ≤ N') (hn : As.length = n) (hst : st0 = As.reverse ++ .ref b :: rest) (hW : (rest.map fun v => v.category).sum ≤ 8) (hrm : rmOK rm R maxL mc ms cs ss) (kk : ∀ w2 : Nat → va_E, post w2 → J E Y N' (cs + mc) (ss + ms) w2 (pc + 3) lv rest) : J E Y N cs ss w pc lv st0 := by
  intro H locs ls hI hls
  subst hst
  have hts := C.2.2.2.2.2.1
  have hK := C.2.2.2.2.2.2.1
  have hR := C.2.2.2.2.2.2.2.1
  have hA := C.2.2.2.2.2.2.2.2.1
  have hf := hI.sub hA
  refine va_callv (va_runI (As := As) (rest := rest) ⟨C.1, C.2.1, C.2.2.1, C.2.2.2.2.1, hts⟩ (hM H.size) (cwI n hts hT hw hrm.1 hrm.2.1 (hts _ hini) (hts _ hl) (hts _ hin) hy1 hdm (by rw [hR]; exact hrm.2.2.1)) ⟨ZSt.blind, fun U hU hW => ⟨rfl, ⟨by rw [hU], hI.toSt hK hU hW⟩, hZ.warm hW⟩⟩ rfl hn hls.1 rfl (lv_room hW) hd (by rw [hR]; exact hrm.2.2.2)) hI.2.2.2.2 (fun q _ h => hf q h) hf (fun w2 t H1 locs1 ht hvm hp hB hz1 hk1 hS => ?_)
  exact kk w2 hp H1 locs1 ls (hI.back hA hN ht hB hS) hls
theorem J_ispN (C : Cx E Y cc nL own Ts R) (hZ : ZW (ys Y)) {idx b n maxL mc ms N' : Nat} {y : MethodName} {host : String} {ws ws' : List Cond} {rm : Room} {bytes : ByteArray} {As rest st0 : List Value} {post : (Nat → va_E) → Prop} (hd : decode cc pc = .ok (.invokespecial idx, 3)) (hM : CtVZ E N N' y ws rm mc ms (.ref b :: As) w post) (hT : GoodIn Ts ws) (hw : ws = .code y bytes maxL none :: ws') (hini : Cond.initialized y.cls ∈ Ts) (hl : va_Nw (.methodLinkNest own idx y host) (ys Y)) (hin : Cond.instanceMethod y ∈ Ts) (hy1 : y.name = "<init>") (hdm : y.cls ≠ "java/lang/invoke/MethodHandle" ∧ y.cls ≠ "java/lang/invoke/VarHandle" ∧ (parseMethodDescriptor y.desc).map (fun d => d.parameters.length) = some n) (hN : N ≤ N') (hn : As.length = n) (hst : st0 = As.reverse ++ .ref b :: rest) (hW : (rest.map fun v => v.category).sum ≤ 8) (hrm : rmOK rm R maxL mc ms cs ss) (kk : ∀ w2 : Nat → va_E, post w2 → J E Y N' (cs + mc) (ss + ms) w2 (pc + 3) lv rest) : J E Y N cs ss w pc lv st0 := by
  intro H locs ls hI hls
  subst hst
  have hts := C.2.2.2.2.2.1
  have hK := C.2.2.2.2.2.2.1
  have hR := C.2.2.2.2.2.2.2.1
  have hA := C.2.2.2.2.2.2.2.2.1
  have hf := hI.sub hA
  refine va_callv (va_runIN (As := As) (rest := rest) ⟨C.1, C.2.1, C.2.2.1, C.2.2.2.2.1, hts⟩ (hM H.size) ⟨va_cnB n hts hT hw hrm.1 hrm.2.1 hl (hts _ hini) hdm (by rw [hR]; exact hrm.2.2.1), hy1, hts _ hin⟩ ⟨ZSt.blind, fun U hU hW => ⟨rfl, ⟨by rw [hU], hI.toSt hK hU hW⟩, hZ.warm hW⟩⟩ rfl hn hls.1 rfl (lv_room hW) hd (by rw [hR]; exact hrm.2.2.2)) hI.2.2.2.2 (fun q _ h => hf q h) hf (fun w2 t H1 locs1 ht hvm hp hB hz1 hk1 hS => ?_)
  exact kk w2 hp H1 locs1 ls (hI.back hA hN ht hB hS) hls
theorem J_anew (C : Cx E Y cc nL own Ts R) (hZ : ZW (ys Y)) {idx : Nat} {n : Int32} (N' : Nat) (hd : decode cc pc = .ok (.anewarray idx, 3)) (hl : Cond.classLink own idx RX0 ∈ Ts) (hn : ¬ n < 0) (hN : n.toNatClampNeg = N') (hbytes : N' * 4 ≤ 536870912) (hcells : cs + 1 ≤ R.cells) (hslots : ss + N' ≤ R.slots) (kk : J E Y (N + 1) (cs + 1) (ss + N') (va_up w N (.inl (eC E 3, N', qRow (fun _ => none)))) (pc + 3) lv (.ref (eA E N) :: st)) : J E Y N cs ss w pc lv (.int n :: st) := by
  intro H locs ls hI hls
  have hts := C.2.2.2.2.2.1
  have hR := C.2.2.2.2.2.2.2.1
  have hK := C.2.2.2.2.2.2.1
  subst hN
  refine W.anew C.1 C.2.1 C.2.2.2.2.1 (hts _ hl) hZ.2.2.2.2.1 rfl hd rfl hn hbytes (by rw [hR]; exact hcells) (by rw [hR]; exact hslots) fun cA kA comp f1 f2 f3 f4 => ?_
  generalize hH1 : H.push ({ cls := cA, slots := Array.replicate n.toNatClampNeg .null, vm := .none } : Cell) = H1
  have z1 : H1.size = H.size + 1 := by rw [← hH1, Array.size_push]
  have e1 : H1[H.size]? = some (arrV cA n.toNatClampNeg (fun _ => .null)) := by rw [← hH1, Array.getElem?_push_size, ← arrV_new]
  have o1 : ∀ q : Nat, q < H.size → H1[q]? = H[q]? := fun q hq => by rw [← hH1, Array.getElem?_push, if_neg (Nat.ne_of_lt hq)]
  have hq : eA E N = H.size := by have := hI.2.2.2.1 0; simpa using this
  obtain ⟨kA2, comp2, g1, g2, g3, g4⟩ := (hK.2 3 (eC E 3, .object RX0) rfl).2
  have hcA : cA = eC E 3 := Option.some.inj (f1.symm.trans g4)
  have := kk H1 locs ls (hI.push C.2.2.2.2.2.2.2.2.1 z1 o1 (by show H1[H.size]? = some (vp_cell _ _); rw [e1, hcA]; rfl)) hls
  rw [hq] at this
  exact this
theorem J_aast (C : Cx E Y cc nL own Ts R) {k k2 ci n : Nat} {T : u_T} {N0 : Nat} {fs : List Value} {f : Nat → Option Nat} {i : Int32} (j : Nat) (hd : decode cc pc = .ok (.aastore, 1)) (hk : k < N) (hwk : w k = .inl (eC E 3, n, qRow f)) (hk2 : k2 < N) (hwk2 : w k2 = .inr (ci, fs)) (hc : vwCl[ci]? = some (RX0, T, N0)) (hi : i = nI j) (hj : j < n) (hn : n < 2 ^ 31) (kk : J E Y N cs ss (va_up w k (.inl (eC E 3, n, qRow (va_up f j (some (eA E k2)))))) (pc + 1) lv st) : J E Y N cs ss w pc lv (.ref (eA E k2) :: .int i :: .ref (eA E k) :: st) := by
  intro H locs ls hI hls
  have hK := C.2.2.2.2.2.2.1
  subst hi
  have ha : (wsF N (eA E) w)[k]? = some (eA E k, .inl (eC E 3, n, qRow f)) := by rw [wsF_get _ _ hk, hwk]
  have hv : (wsF N (eA E) w)[k2]? = some (eA E k2, .inr (ci, fs)) := by rw [wsF_get _ _ hk2, hwk2]
  have hlt : (nI j).toNatClampNeg = j := nI_clamp (by omega)
  obtain ⟨r', hr', cellV, g1, g2, g3, -⟩ := hI.1 k2 _ hv
  have hcls := (hK.1 ci _ hc).2
  obtain ⟨kA, comp, k1, k2', k3, -⟩ := (hK.2 3 (eC E 3, .object RX0) rfl).2
  have hcomp : comp = (eD E).1 ci := Option.some.inj (k3.symm.trans hcls.1)
  subst hcomp
  obtain ⟨kC, hkC, -⟩ := hcls.2
  refine W.aast C.1 C.2.1 (hI.1 k _ ha) (fun q h => by cases h) (fun h => by cases h) k1 k2' rfl hkC ⟨nI_pos (by omega), by show _ < (arrV _ _ _).slots.size; rw [arrV_size, hlt]; exact hj⟩ g1 (fun q h => by rw [g3] at h; cases h) (by rw [g2]; exact hkC) (by rw [g2]; exact va_assign hcls) rfl rfl hd fun H1 e z oq => ?_
  refine kk H1 _ ls (hI.put z (hI.1.set hI.D ha ?_ oq) (hI.2.2.2.2.put z oq (hI.2.2.1 k hk))) hls
  show H1[eA E k]? = some (vp_cell _ _)
  rw [e, hlt]
  show some ((vp_cell (eC E 3) (n, .inr (.inr (.inr (.inr f))))).setSlot j (.ref (eA E k2))) = some (vp_cell (eC E 3) (n, .inr (.inr (.inr (.inr (va_up f j (some (eA E k2))))))))
  rw [vp_cell_q, vp_cell_q, arrV_store]
  congr 2
  funext q
  by_cases hq : q = j
  · subst hq
    simp [updV, va_up, va_rf]
  · simp [updV, va_up, hq]
end KR

