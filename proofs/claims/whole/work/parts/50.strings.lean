/-! the six words as String constants: what is known of them in a method, and the JDK's own methods that read them -/
def chS : List (List Nat) := [[116, 104, 105, 110, 103], [102, 101, 97, 114, 115], [102, 101, 114, 114, 121], [108, 111, 97, 100], [100, 97, 121, 115], [102, 114, 111, 115, 116]]
def lenS : List Nat := [5, 5, 5, 4, 4, 5]
def bytS : List (List Int32) := chS.map (fun l => l.map nI)
def txS : List String := ["thing", "fears", "ferry", "load", "days", "frost"]
def ixS : List Nat := [132, 138, 140, 142, 143, 144]
def ZC (A : Nat → Prop) (U : State) (H : Heap) : Prop := va_Z "java/lang/String" "COMPACT_STRINGS" "Z" (.int 1) A U H
def ZF (vf : Value) (A : Nat → Prop) (U : State) (H : Heap) : Prop := va_Z "jdk/internal/util/Preconditions" "SIOOBE_FORMATTER" "Ljava/util/function/BiFunction;" vf A U H
abbrev SV : Type := (Nat → Nat) × (Nat → Nat) × Value
def SP (V : SV) (A : Nat → Prop) (U : State) (H : Heap) : Prop := vk_S 6 lenS bytS V.1 V.2.1 A U H ∧ (∀ i, i < 6 → vk_R RX2 (ixS.getD i 0) (txS.getD i "") (V.1 i) U) ∧ ZC A U H ∧ ZF V.2.2 A U H ∧ V.2.2.category = 1
section SPS
variable {E : EN} {Y : YN} {cc : ByteArray} {nL : Nat} {own : String} {Ts : List Cond} {R : Room} {N cs ss : Nat} {w : Nat → va_E} {pc : Nat} {lv : List (Option Value)} {st : List Value} {V : SV}
theorem SP.at (h : SP V (yA Y) (ys Y) (ys Y).heap) {H : Heap} {locs : List Loc} (hI : Inv E Y N w H locs) (hA : ∀ q, (ys Y).heap.size ≤ q → yA Y q) {U : State} (hU : U.heap = H) (hW : (ys Y).WarmedH U.vm) : SP V (AF E N H.size) U U.heap := by
  have hk := hI.2.2.2.2.2.1
  have hs := hI.sub hA
  rw [hU]
  exact ⟨((h.1.kept hk).narrow hs).moved hW.alike, fun i hi => (h.2.1 i hi).warm hW, ((va_Z.kept h.2.2.1 hk).narrow hs).moved hW.alike, ((va_Z.kept h.2.2.2.1 hk).narrow hs).moved hW.alike, h.2.2.2.2⟩
def CtIS (E : EN) (V : SV) (N N' : Nat) (y : MethodName) (ws : List Cond) (rm : Room) (mc ms : Nat) (av : List Value) (w : Nat → va_E) (post : Int32 → (Nat → va_E) → Prop) : Prop := ∀ sz : Nat, Met (eL E) y ws rm (va_Pc av (fun U => (U.heap.size = sz ∧ St E N w U) ∧ SP V (AF E N sz) U U.heap)) (va_Qi post (fun w' t => St E N' w' t) (AF E N sz)) mc ms (AF E N sz)
def CtVS (E : EN) (V : SV) (N N' : Nat) (y : MethodName) (ws : List Cond) (rm : Room) (mc ms : Nat) (av : List Value) (w : Nat → va_E) (post : (Nat → va_E) → Prop) : Prop := ∀ sz : Nat, Met (eL E) y ws rm (va_Pc av (fun U => (U.heap.size = sz ∧ St E N w U) ∧ SP V (AF E N sz) U U.heap)) (va_Qv post (fun w' t => St E N' w' t) (AF E N sz)) mc ms (AF E N sz)
theorem SP.blind {N sz : Nat} {w : Nat → va_E} {av : List Value} : FrameBlind (va_Pc av (fun U => (U.heap.size = sz ∧ St E N w U) ∧ SP V (AF E N sz) U U.heap)) := fun a U g mk q => by
  obtain ⟨q0, ⟨q1, qP, qK, qD⟩, s1, s2, s3, s4, s5⟩ := q
  exact ⟨q0, ⟨q1, qP, va_K.moved (u := U) (U := U.calling g mk a) (Vm.Alike.refl U.vm) qK, qD⟩, vk_S.moved (u := U) (U := U.calling g mk a) (Vm.Alike.refl U.vm) s1, fun i hi => vk_R.same (u := U) (U := U.calling g mk a) rfl (s2 i hi), va_Z.moved (u := U) (U := U.calling g mk a) (Vm.Alike.refl U.vm) s3, va_Z.moved (u := U) (U := U.calling g mk a) (Vm.Alike.refl U.vm) s4, s5⟩
theorem J_gets (C : Cx E Y cc nL own Ts R) {Cn n d : String} {idx : Nat} {v : Value} (hZ : va_Z Cn n d v (yA Y) (ys Y) (ys Y).heap) (hl : Cond.fieldLink own idx Cn n d ∈ Ts) (hd : decode cc pc = .ok (.getstatic idx, 3)) (kk : J E Y N cs ss w (pc + 3) lv (v :: st)) : J E Y N cs ss w pc lv st := fun H locs ls hI hls => va_gets C.1 C.2.1 hZ hI.2.2.2.2 C.2.2.2.2.1 (C.2.2.2.2.2.1 _ hl) (fun _ h => h) hd (kk H locs ls hI hls)
theorem J_ofget (C : Cx E Y cc nL own Ts R) {Cn n d : String} {idx q : Nat} {v : Value} (hE : va_OF Cn n d v q (yA Y) (ys Y) (ys Y).heap) (hl : Cond.fieldLink own idx Cn n d ∈ Ts) (hd : decode cc pc = .ok (.getfield idx, 3)) (kk : J E Y N cs ss w (pc + 3) lv (v :: st)) : J E Y N cs ss w pc lv (.ref q :: st) := fun H locs ls hI hls => vk_getf C.1 C.2.1 hE hI.2.2.2.2 C.2.2.2.2.1 (C.2.2.2.2.2.1 _ hl) (fun _ h => h) hd (kk H locs ls hI hls)
theorem J_tlen (C : Cx E Y cc nL own Ts R) {ty : FieldType} {t n : Nat} {f : Nat → Value} (hT : va_T ty t n f (yA Y) (ys Y) (ys Y).heap) (hd : decode cc pc = .ok (.arraylength, 1)) (kk : J E Y N cs ss w (pc + 1) lv (.int (nI n) :: st)) : J E Y N cs ss w pc lv (.ref t :: st) := fun H locs ls hI hls => va_tlen C.1 C.2.1 hT hI.2.2.2.2 rfl hd (kk H locs ls hI hls)
theorem J_tb (C : Cx E Y cc nL own Ts R) {t n : Nat} {f : Nat → Value} (hT : va_T .byte t n f (yA Y) (ys Y) (ys Y).heap) {i : Int32} (j : Nat) (hi : i = nI j) (hj : j < n) (hn : n < 2 ^ 31) (hd : decode cc pc = .ok (.baload, 1)) (kk : J E Y N cs ss w (pc + 1) lv (f j :: st)) : J E Y N cs ss w pc lv (.int i :: .ref t :: st) := fun H locs ls hI hls => by
  obtain ⟨h1, h2⟩ := vpn hi hj hn
  exact va_tb C.1 C.2.1 hT hI.2.2.2.2 h1 (by rw [h2]) hd (kk H locs ls hI hls)
theorem J_ldcS (C : Cx E Y cc nL own Ts R) {idx q : Nat} {tx : String} (hZ : vk_R own idx tx q (ys Y)) (hd : decode cc pc = .ok (.ldc idx, 2)) (kk : J E Y N cs ss w (pc + 2) lv (.ref q :: st)) : J E Y N cs ss w pc lv st := fun H locs ls hI hls => va_ldcS C.1 C.2.1 C.2.2.2.2.1 hZ hd (kk H locs ls hI hls)
theorem J_pop (C : Cx E Y cc nL own Ts R) {v : Value} (hd : decode cc pc = .ok (.pop, 1)) (hv : v.category = 1) (kk : J E Y N cs ss w (pc + 1) lv st) : J E Y N cs ss w pc lv (v :: st) := fun H locs ls hI hls => lv_pop C.1 C.2.1 hd hv (kk H locs ls hI hls)
theorem J_i2c (C : Cx E Y cc nL own Ts R) {x : Int32} (v : Int32) (hd : decode cc pc = .ok (.i2c, 1)) (hv : (x.toUInt32 % 65536).toInt32 = v) (kk : J E Y N cs ss w (pc + 1) lv (.int v :: st)) : J E Y N cs ss w pc lv (.int x :: st) := fun H locs ls hI hls => lv_i2c C.1 C.2.1 hd hv (kk H locs ls hI hls)
/-- a receiver: an object of the world, or one of the words -/
def Rcv (E : EN) (Y : YN) (N : Nat) (w : Nat → va_E) (Cn : String) (b : Nat) : Prop := ∀ (H : Heap) (locs : List Loc), Inv E Y N w H locs → ∃ cell : Cell, H[b]? = some cell ∧ cell.vm.isStatics = false ∧ (ys Y).vm.findClass Cn = some cell.cls
theorem Rcv.obj (C : Cx E Y cc nL own Ts R) {Cn : String} {T : u_T} {N0 ci k : Nat} {fs : List Value} (hc : vwCl[ci]? = some (Cn, T, N0)) (hk : k < N) (hw : w k = .inr (ci, fs)) : Rcv E Y N w Cn (eA E k) := fun _ _ hI => va_recv C.2.2.2.2.2.2.1 hI.1 hc (by rw [wsF_get _ _ hk, hw])
theorem Rcv.word (h : SP V (yA Y) (ys Y) (ys Y).heap) {i : Nat} (hi : i < 6) : Rcv E Y N w "java/lang/String" (V.1 i) := fun _ _ hI => vk_recv h.1 hi hI.2.2.2.2
theorem J_cvSi (C : Cx E Y cc nL own Ts R) (hSP : SP V (yA Y) (ys Y) (ys Y).heap) {Cn : String} {idx b n maxL mc ms N' : Nat} {y : MethodName} {ws ws' : List Cond} {rm : Room} {bytes : ByteArray} {ret : Option FieldType} {As rest st0 : List Value} {post : Int32 → (Nat → va_E) → Prop} (hd : decode cc pc = .ok (.invokevirtual idx, 3)) (hM : CtIS E V N N' y ws rm mc ms (.ref b :: As) w post) (hT : GoodIn Ts (wsV own idx Cn y ws)) (hw : ws = .code y bytes maxL ret :: ws') (hdm : y.cls = Cn ∧ y.cls ≠ "java/lang/invoke/MethodHandle" ∧ y.cls ≠ "java/lang/invoke/VarHandle" ∧ (parseMethodDescriptor y.desc).map (fun d => d.parameters.length) = some n) (hb : Rcv E Y N w Cn b) (hN : N ≤ N') (hn : As.length = n) (hst : st0 = As.reverse ++ .ref b :: rest) (hW : (rest.map fun v => v.category).sum ≤ 8) (hrm : rmOK rm R maxL mc ms cs ss) (kk : ∀ (r : Int32) (w2 : Nat → va_E), post r w2 → J E Y N' (cs + mc) (ss + ms) w2 (pc + 3) lv (.int r :: rest)) : J E Y N cs ss w pc lv st0 := by
  intro H locs ls hI hls
  subst hst
  have hts := C.2.2.2.2.2.1
  have hK := C.2.2.2.2.2.2.1
  have hR := C.2.2.2.2.2.2.2.1
  have hA := C.2.2.2.2.2.2.2.2.1
  have hf := hI.sub hA
  refine va_calli (va_runV (As := As) (rest := rest) ⟨C.1, C.2.1, C.2.2.1, C.2.2.2.2.1, hts⟩ (hM H.size) (cwV n hts hT hw hrm.1 hrm.2.1 hdm (by rw [hR]; exact hrm.2.2.1)) ⟨SP.blind, hb H locs hI, fun U hU hW => ⟨rfl, ⟨by rw [hU], hI.toSt hK hU hW⟩, hSP.at hI hA hU hW⟩⟩ rfl hn hls.1 rfl (lv_room hW) hd (by rw [hR]; exact hrm.2.2.2)) hI.2.2.2.2 (fun q _ h => hf q h) hf (fun r w2 t H1 locs1 ht hvm hp hB hz1 hk1 hS => ?_)
  exact kk r w2 hp H1 locs1 ls (hI.back hA hN ht hB hS) hls
theorem J_csSi (C : Cx E Y cc nL own Ts R) (hSP : SP V (yA Y) (ys Y) (ys Y).heap) {idx n maxL mc ms N' : Nat} {y : MethodName} {ws ws' : List Cond} {rm : Room} {bytes : ByteArray} {ret : Option FieldType} {As rest st0 : List Value} {post : Int32 → (Nat → va_E) → Prop} (hd : decode cc pc = .ok (.invokestatic idx, 3)) (hM : CtIS E V N N' y ws rm mc ms As w post) (hT : GoodIn Ts (va_wsS own idx y ws)) (hw : ws = .code y bytes maxL ret :: ws') (hdm : y.cls ≠ "java/lang/invoke/MethodHandle" ∧ y.cls ≠ "java/lang/invoke/VarHandle" ∧ (parseMethodDescriptor y.desc).map (fun d => d.parameters.length) = some n) (hN : N ≤ N') (hn : As.length = n) (hst : st0 = As.reverse ++ rest) (hW : (rest.map fun v => v.category).sum ≤ 8) (hrm : rmOK rm R maxL mc ms cs ss) (kk : ∀ (r : Int32) (w2 : Nat → va_E), post r w2 → J E Y N' (cs + mc) (ss + ms) w2 (pc + 3) lv (.int r :: rest)) : J E Y N cs ss w pc lv st0 := by
  intro H locs ls hI hls
  subst hst
  have hts := C.2.2.2.2.2.1
  have hK := C.2.2.2.2.2.2.1
  have hR := C.2.2.2.2.2.2.2.1
  have hA := C.2.2.2.2.2.2.2.2.1
  have hf := hI.sub hA
  refine va_calli (va_runS (As := As) (rest := rest) ⟨C.1, C.2.1, C.2.2.1, C.2.2.2.2.1, hts⟩ (hM H.size) (va_cwS n hts hT hw hrm.1 hrm.2.1 hdm (by rw [hR]; exact hrm.2.2.1)) ⟨SP.blind, fun U hU hW => ⟨rfl, ⟨by rw [hU], hI.toSt hK hU hW⟩, hSP.at hI hA hU hW⟩⟩ rfl hn hls.1 rfl (lv_room hW) hd (by rw [hR]; exact hrm.2.2.2)) hI.2.2.2.2 (fun q _ h => hf q h) hf (fun r w2 t H1 locs1 ht hvm hp hB hz1 hk1 hS => ?_)
  exact kk r w2 hp H1 locs1 ls (hI.back hA hN ht hB hS) hls
theorem sc_255 : (Int16.ofInt (255)).toInt32 = (255) := by decide
theorem J_cvSv (C : Cx E Y cc nL own Ts R) (hSP : SP V (yA Y) (ys Y) (ys Y).heap) {Cn : String} {idx b n maxL mc ms N' : Nat} {y : MethodName} {ws ws' : List Cond} {rm : Room} {bytes : ByteArray} {ret : Option FieldType} {As rest st0 : List Value} {post : (Nat → va_E) → Prop} (hd : decode cc pc = .ok (.invokevirtual idx, 3)) (hM : CtVS E V N N' y ws rm mc ms (.ref b :: As) w post) (hT : GoodIn Ts (wsV own idx Cn y ws)) (hw : ws = .code y bytes maxL ret :: ws') (hdm : y.cls = Cn ∧ y.cls ≠ "java/lang/invoke/MethodHandle" ∧ y.cls ≠ "java/lang/invoke/VarHandle" ∧ (parseMethodDescriptor y.desc).map (fun d => d.parameters.length) = some n) (hb : Rcv E Y N w Cn b) (hN : N ≤ N') (hn : As.length = n) (hst : st0 = As.reverse ++ .ref b :: rest) (hW : (rest.map fun v => v.category).sum ≤ 8) (hrm : rmOK rm R maxL mc ms cs ss) (kk : ∀ w2 : Nat → va_E, post w2 → J E Y N' (cs + mc) (ss + ms) w2 (pc + 3) lv (rest)) : J E Y N cs ss w pc lv st0 := by
  intro H locs ls hI hls
  subst hst
  have hts := C.2.2.2.2.2.1
  have hK := C.2.2.2.2.2.2.1
  have hR := C.2.2.2.2.2.2.2.1
  have hA := C.2.2.2.2.2.2.2.2.1
  have hf := hI.sub hA
  refine va_callv (va_runV (As := As) (rest := rest) ⟨C.1, C.2.1, C.2.2.1, C.2.2.2.2.1, hts⟩ (hM H.size) (cwV n hts hT hw hrm.1 hrm.2.1 hdm (by rw [hR]; exact hrm.2.2.1)) ⟨SP.blind, hb H locs hI, fun U hU hW => ⟨rfl, ⟨by rw [hU], hI.toSt hK hU hW⟩, hSP.at hI hA hU hW⟩⟩ rfl hn hls.1 rfl (lv_room hW) hd (by rw [hR]; exact hrm.2.2.2)) hI.2.2.2.2 (fun q _ h => hf q h) hf (fun w2 t H1 locs1 ht hvm hp hB hz1 hk1 hS => ?_)
  exact kk w2 hp H1 locs1 ls (hI.back hA hN ht hB hS) hls
theorem J_csSv (C : Cx E Y cc nL own Ts R) (hSP : SP V (yA Y) (ys Y) (ys Y).heap) {idx n maxL mc ms N' : Nat} {y : MethodName} {ws ws' : List Cond} {rm : Room} {bytes : ByteArray} {ret : Option FieldType} {As rest st0 : List Value} {post : (Nat → va_E) → Prop} (hd : decode cc pc = .ok (.invokestatic idx, 3)) (hM : CtVS E V N N' y ws rm mc ms As w post) (hT : GoodIn Ts (va_wsS own idx y ws)) (hw : ws = .code y bytes maxL ret :: ws') (hdm : y.cls ≠ "java/lang/invoke/MethodHandle" ∧ y.cls ≠ "java/lang/invoke/VarHandle" ∧ (parseMethodDescriptor y.desc).map (fun d => d.parameters.length) = some n) (hN : N ≤ N') (hn : As.length = n) (hst : st0 = As.reverse ++ rest) (hW : (rest.map fun v => v.category).sum ≤ 8) (hrm : rmOK rm R maxL mc ms cs ss) (kk : ∀ w2 : Nat → va_E, post w2 → J E Y N' (cs + mc) (ss + ms) w2 (pc + 3) lv (rest)) : J E Y N cs ss w pc lv st0 := by
  intro H locs ls hI hls
  subst hst
  have hts := C.2.2.2.2.2.1
  have hK := C.2.2.2.2.2.2.1
  have hR := C.2.2.2.2.2.2.2.1
  have hA := C.2.2.2.2.2.2.2.2.1
  have hf := hI.sub hA
  refine va_callv (va_runS (As := As) (rest := rest) ⟨C.1, C.2.1, C.2.2.1, C.2.2.2.2.1, hts⟩ (hM H.size) (va_cwS n hts hT hw hrm.1 hrm.2.1 hdm (by rw [hR]; exact hrm.2.2.1)) ⟨SP.blind, fun U hU hW => ⟨rfl, ⟨by rw [hU], hI.toSt hK hU hW⟩, hSP.at hI hA hU hW⟩⟩ rfl hn hls.1 rfl (lv_room hW) hd (by rw [hR]; exact hrm.2.2.2)) hI.2.2.2.2 (fun q _ h => hf q h) hf (fun w2 t H1 locs1 ht hvm hp hB hz1 hk1 hS => ?_)
  exact kk w2 hp H1 locs1 ls (hI.back hA hN ht hB hS) hls
end SPS
theorem CtSN_of {E : EN} {V : SV} {N N' mc ms nL : Nat} {y : MethodName} {ws ws' : List Cond} {rm : Room} {av : List Value} {w : Nat → va_E} {post : Int32 → (Nat → va_E) → Prop} {cc : ByteArray} {ty : FieldType} (own : String) (lv0 : List (Option Value)) (hrm : rm.cells = mc ∧ rm.slots = ms) (hy : plainName y.cls = true) (ho : y.cls = own) (hw : ws = .code y cc nL (some ty) :: ws') (hav : (lg_sl av).length ≤ nL) (hlv : ∃ n, lv0 = lvA av ++ List.replicate n none) (hE : ∀ k, eS E k = true → k < eN E)
  (body : ∀ Y : YN, Cx E Y cc nL own ws rm → SP V (yA Y) (ys Y) (ys Y).heap → (∀ (w2 : Nat → va_E) (pc : Nat) (lv : List (Option Value)) (v : Int32), decode cc pc = .ok (.ireturn, 1) → narrow ty (.int v) = .int v → post v w2 → J E Y N' mc ms w2 pc lv [.int v]) → J E Y N 0 0 w 0 lv0 []) : CtIS E V N N' y ws rm mc ms av w post := by
  intro sz
  refine Met.ofW (cc := cc) (maxL := nL) (ret := (some ty)) hy hw ?_
  intro p e s m args below meth c s₁ B hml hv
  obtain ⟨rfl, ⟨hsz, hP, hK, hInj, hFut⟩, hSP⟩ := hv
  have hts := atoms_spec (ws := ws) B.pre
  have hown : s.vm.findClass own = some m.cls := by rw [← ho]; exact findClass_of_methodNamed B.named
  have hlocks := B.notSynchronized
  subst hsz
  rw [lg_entry_eq]
  obtain ⟨n0, rfl⟩ := hlv
  have hl := lvH_entry (lv := lvA av ++ List.replicate n0 none) hav (fun i v h => lv_pad h)
  generalize (lg_sl av ++ List.replicate (nL - (lg_sl av).length) Slot.unset).toArray = ls at hl ⊢
  have hA : ∀ q : Nat, s.heap.size ≤ q → AF E N s.heap.size q := fun q h => Or.inr h
  have hb := body (p, e, (headSpec ws rm).room, s, m, av.toArray, below, meth, c, nL, AF E N s.heap.size, MQ below (va_Qi post (fun w' t => St E N' w' t) (AF E N s.heap.size)) av.toArray s mc ms (AF E N s.heap.size)) ⟨B.exec, B.bytes, hml, rfl, hown, hts, hK, rfl, hA, hE⟩ hSP ?_
  · exact hb s.heap [] ls ⟨hP, hInj, fun i hi => Or.inl ⟨i, hi, rfl⟩, hFut, va_S.rf⟩ hl
  · intro w2 pc lv v hd hnw hpost H locs ls hI hls
    have hr := B.returns
    exact W.zret B.exec B.bytes hr hnw (fun t ht hW => ⟨⟨v, w2, rfl, hpost, by rw [ht]; exact hI.1, va_K.moved hW.alike hK, hI.2.1, by rw [ht]; exact hI.2.2.2.1⟩, hI.2.2.2.2.F ht⟩) hI.2.2.2.2.2.2 hd hlocks
theorem CtSI_of {E : EN} {V : SV} {N N' mc ms nL : Nat} {y : MethodName} {ws ws' : List Cond} {rm : Room} {av : List Value} {w : Nat → va_E} {post : Int32 → (Nat → va_E) → Prop} {cc : ByteArray} (own : String) (lv0 : List (Option Value)) (hrm : rm.cells = mc ∧ rm.slots = ms) (hy : plainName y.cls = true) (ho : y.cls = own) (hw : ws = .code y cc nL (some .int) :: ws') (hav : (lg_sl av).length ≤ nL) (hlv : ∃ n, lv0 = lvA av ++ List.replicate n none) (hE : ∀ k, eS E k = true → k < eN E)
  (body : ∀ Y : YN, Cx E Y cc nL own ws rm → SP V (yA Y) (ys Y) (ys Y).heap → (∀ (w2 : Nat → va_E) (pc : Nat) (lv : List (Option Value)) (v : Int32), decode cc pc = .ok (.ireturn, 1) → post v w2 → J E Y N' mc ms w2 pc lv [.int v]) → J E Y N 0 0 w 0 lv0 []) : CtIS E V N N' y ws rm mc ms av w post := by
  intro sz
  refine Met.ofW (cc := cc) (maxL := nL) (ret := (some .int)) hy hw ?_
  intro p e s m args below meth c s₁ B hml hv
  obtain ⟨rfl, ⟨hsz, hP, hK, hInj, hFut⟩, hSP⟩ := hv
  have hts := atoms_spec (ws := ws) B.pre
  have hown : s.vm.findClass own = some m.cls := by rw [← ho]; exact findClass_of_methodNamed B.named
  have hlocks := B.notSynchronized
  subst hsz
  rw [lg_entry_eq]
  obtain ⟨n0, rfl⟩ := hlv
  have hl := lvH_entry (lv := lvA av ++ List.replicate n0 none) hav (fun i v h => lv_pad h)
  generalize (lg_sl av ++ List.replicate (nL - (lg_sl av).length) Slot.unset).toArray = ls at hl ⊢
  have hA : ∀ q : Nat, s.heap.size ≤ q → AF E N s.heap.size q := fun q h => Or.inr h
  have hb := body (p, e, (headSpec ws rm).room, s, m, av.toArray, below, meth, c, nL, AF E N s.heap.size, MQ below (va_Qi post (fun w' t => St E N' w' t) (AF E N s.heap.size)) av.toArray s mc ms (AF E N s.heap.size)) ⟨B.exec, B.bytes, hml, rfl, hown, hts, hK, rfl, hA, hE⟩ hSP ?_
  · exact hb s.heap [] ls ⟨hP, hInj, fun i hi => Or.inl ⟨i, hi, rfl⟩, hFut, va_S.rf⟩ hl
  · intro w2 pc lv v hd hpost H locs ls hI hls
    have hr := B.returns
    exact W.iret B.exec B.bytes hr (fun t ht hW => ⟨⟨v, w2, rfl, hpost, by rw [ht]; exact hI.1, va_K.moved hW.alike hK, hI.2.1, by rw [ht]; exact hI.2.2.2.1⟩, hI.2.2.2.2.F ht⟩) hI.2.2.2.2.2.2 hd hlocks
theorem CtSV_of {E : EN} {V : SV} {N N' mc ms nL : Nat} {y : MethodName} {ws ws' : List Cond} {rm : Room} {av : List Value} {w : Nat → va_E} {post : (Nat → va_E) → Prop} {cc : ByteArray} (own : String) (lv0 : List (Option Value)) (hrm : rm.cells = mc ∧ rm.slots = ms) (hy : plainName y.cls = true) (ho : y.cls = own) (hw : ws = .code y cc nL none :: ws') (hav : (lg_sl av).length ≤ nL) (hlv : ∃ n, lv0 = lvA av ++ List.replicate n none) (hE : ∀ k, eS E k = true → k < eN E)
  (body : ∀ Y : YN, Cx E Y cc nL own ws rm → SP V (yA Y) (ys Y) (ys Y).heap → (∀ (w2 : Nat → va_E) (pc : Nat) (lv : List (Option Value)), decode cc pc = .ok (.return_, 1) → post w2 → J E Y N' mc ms w2 pc lv []) → J E Y N 0 0 w 0 lv0 []) : CtVS E V N N' y ws rm mc ms av w post := by
  intro sz
  refine Met.ofW (cc := cc) (maxL := nL) (ret := none) hy hw ?_
  intro p e s m args below meth c s₁ B hml hv
  obtain ⟨rfl, ⟨hsz, hP, hK, hInj, hFut⟩, hSP⟩ := hv
  have hts := atoms_spec (ws := ws) B.pre
  have hown : s.vm.findClass own = some m.cls := by rw [← ho]; exact findClass_of_methodNamed B.named
  have hlocks := B.notSynchronized
  subst hsz
  rw [lg_entry_eq]
  obtain ⟨n0, rfl⟩ := hlv
  have hl := lvH_entry (lv := lvA av ++ List.replicate n0 none) hav (fun i v h => lv_pad h)
  generalize (lg_sl av ++ List.replicate (nL - (lg_sl av).length) Slot.unset).toArray = ls at hl ⊢
  have hA : ∀ q : Nat, s.heap.size ≤ q → AF E N s.heap.size q := fun q h => Or.inr h
  have hb := body (p, e, (headSpec ws rm).room, s, m, av.toArray, below, meth, c, nL, AF E N s.heap.size, MQ below (va_Qv post (fun w' t => St E N' w' t) (AF E N s.heap.size)) av.toArray s mc ms (AF E N s.heap.size)) ⟨B.exec, B.bytes, hml, rfl, hown, hts, hK, rfl, hA, hE⟩ hSP ?_
  · exact hb s.heap [] ls ⟨hP, hInj, fun i hi => Or.inl ⟨i, hi, rfl⟩, hFut, va_S.rf⟩ hl
  · intro w2 pc lv hd hpost H locs ls hI hls
    have hr := B.returns
    exact W.vret B.exec B.bytes hr (fun t ht hW => ⟨⟨w2, rfl, hpost, by rw [ht]; exact hI.1, va_K.moved hW.alike hK, hI.2.1, by rw [ht]; exact hI.2.2.2.1⟩, hI.2.2.2.2.F ht⟩) hI.2.2.2.2.2.2 hd hlocks
theorem s_all : ∀ i, i < 6 → (lenS.getD i 0 = (chS.getD i []).length ∧ lenS.getD i 0 ≤ 5) := by decide
theorem s_byte : ∀ i, i < 6 → ∀ j, j < lenS.getD i 0 → ((bytS.getD i []).getD j 0 = nI ((chS.getD i []).getD j 0) ∧ (chS.getD i []).getD j 0 < 128 ∧ (chS.getD i []).getD j 0 &&& 255 = (chS.getD i []).getD j 0) := by decide
theorem c2_ok : ∀ n, n < 128 → ((nI n).toUInt32 % 65536).toInt32 = nI n := by decide +kernel
abbrev rmJ0_coder_7d493 : Room := { frames := 0, cells := 0, slots := 0, locals := 0 }
theorem fsJ0_coder_7d493_38 : Cond.fieldLink RJ0 38 "java/lang/String" "COMPACT_STRINGS" "Z" ∈ wsJ0_coder_7d493 := by decide +kernel
theorem fsJ0_coder_7d493_15 : Cond.fieldLink RJ0 15 "java/lang/String" "coder" "B" ∈ wsJ0_coder_7d493 := by decide +kernel
set_option maxRecDepth 100000 in
set_option maxHeartbeats 4000000 in
theorem c_coder (E : EN) (hE : ∀ k, eS E k = true → k < eN E) (V : SV) (N : Nat) (w : Nat → va_E) (i : Nat) (hi : i < 6) : CtIS E V N N yJ0_coder_7d493 wsJ0_coder_7d493 rmJ0_coder_7d493 0 0 [.ref (V.1 i)] w (fun r w2 => w2 = w ∧ r = 0) := by
  refine CtSN_of (cc := cJ0_coder_7d493) (nL := 1) RJ0 [some (.ref (V.1 i))] ⟨rfl, rfl⟩ (by decide) rfl rfl (Nat.le_of_ble_eq_true rfl) ⟨0, rfl⟩ hE (fun Y C hSP hQ => ?_)
  refine J_gets C hSP.2.2.1 fsJ0_coder_7d493_38 dJ0_coder_7d493_0 ?_
  refine J_if_eq C 13 dJ0_coder_7d493_3 (by decide) (fun hc => absurd hc (by decide)) (fun _ => ?_)
  refine J_aload_0 C dJ0_coder_7d493_6 ?_
  refine J_ofget C (hSP.1.1 i hi).2.1 fsJ0_coder_7d493_15 dJ0_coder_7d493_7 ?_
  refine J_goto C 14 dJ0_coder_7d493_10 (by decide) ?_
  exact hQ _ _ _ _ dJ0_coder_7d493_14 (by decide) ⟨rfl, rfl⟩
abbrev rmJ0_isLatin1_aae02 : Room := { frames := 0, cells := 0, slots := 0, locals := 0 }
theorem fsJ0_isLatin1_aae02_38 : Cond.fieldLink RJ0 38 "java/lang/String" "COMPACT_STRINGS" "Z" ∈ wsJ0_isLatin1_aae02 := by decide +kernel
theorem fsJ0_isLatin1_aae02_15 : Cond.fieldLink RJ0 15 "java/lang/String" "coder" "B" ∈ wsJ0_isLatin1_aae02 := by decide +kernel
set_option maxRecDepth 100000 in
set_option maxHeartbeats 4000000 in
theorem c_isLatin1 (E : EN) (hE : ∀ k, eS E k = true → k < eN E) (V : SV) (N : Nat) (w : Nat → va_E) (i : Nat) (hi : i < 6) : CtIS E V N N yJ0_isLatin1_aae02 wsJ0_isLatin1_aae02 rmJ0_isLatin1_aae02 0 0 [.ref (V.1 i)] w (fun r w2 => w2 = w ∧ r = 1) := by
  refine CtSN_of (cc := cJ0_isLatin1_aae02) (nL := 1) RJ0 [some (.ref (V.1 i))] ⟨rfl, rfl⟩ (by decide) rfl rfl (Nat.le_of_ble_eq_true rfl) ⟨0, rfl⟩ hE (fun Y C hSP hQ => ?_)
  refine J_gets C hSP.2.2.1 fsJ0_isLatin1_aae02_38 dJ0_isLatin1_aae02_0 ?_
  refine J_if_eq C 17 dJ0_isLatin1_aae02_3 (by decide) (fun hc => absurd hc (by decide)) (fun _ => ?_)
  refine J_aload_0 C dJ0_isLatin1_aae02_6 ?_
  refine J_ofget C (hSP.1.1 i hi).2.1 fsJ0_isLatin1_aae02_15 dJ0_isLatin1_aae02_7 ?_
  refine J_if_ne C 17 dJ0_isLatin1_aae02_10 (by decide) (fun hc => absurd rfl hc) (fun _ => ?_)
  refine J_iconst C (1) dJ0_isLatin1_aae02_13 ic_1 ?_
  refine J_goto C 18 dJ0_isLatin1_aae02_14 (by decide) ?_
  exact hQ _ _ _ _ dJ0_isLatin1_aae02_18 (by decide) ⟨rfl, rfl⟩
abbrev rmJ0_length_8abf5 : Room := { frames := 1, cells := 0, slots := 0, locals := 20 }
theorem fsJ0_length_8abf5_9 : Cond.fieldLink RJ0 9 "java/lang/String" "value" "[B" ∈ wsJ0_length_8abf5 := by decide +kernel
theorem dm_J0_coder_7d493 : yJ0_coder_7d493.cls = RJ0 ∧ yJ0_coder_7d493.cls ≠ "java/lang/invoke/MethodHandle" ∧ yJ0_coder_7d493.cls ≠ "java/lang/invoke/VarHandle" ∧ (parseMethodDescriptor yJ0_coder_7d493.desc).map (fun d => d.parameters.length) = some 0 := by decide +kernel
set_option maxRecDepth 100000 in
set_option maxHeartbeats 4000000 in
theorem c_length (E : EN) (hE : ∀ k, eS E k = true → k < eN E) (V : SV) (N : Nat) (w : Nat → va_E) (i : Nat) (hi : i < 6) : CtIS E V N N yJ0_length_8abf5 wsJ0_length_8abf5 rmJ0_length_8abf5 0 0 [.ref (V.1 i)] w (fun r w2 => w2 = w ∧ r = nI (lenS.getD i 0)) := by
  refine CtSI_of (cc := cJ0_length_8abf5) (nL := 1) RJ0 [some (.ref (V.1 i))] ⟨rfl, rfl⟩ (by decide) rfl rfl (Nat.le_of_ble_eq_true rfl) ⟨0, rfl⟩ hE (fun Y C hSP hQ => ?_)
  refine J_aload_0 C dJ0_length_8abf5_0 ?_
  refine J_ofget C (hSP.1.1 i hi).2.2.1 fsJ0_length_8abf5_9 dJ0_length_8abf5_1 ?_
  refine J_tlen C (hSP.1.1 i hi).2.2.2 dJ0_length_8abf5_4 ?_
  refine J_aload_0 C dJ0_length_8abf5_5 ?_
  refine J_cvSi C hSP dJ0_length_8abf5_6 (c_coder E hE V N w i hi) gJ0_length_8abf5_J0_coder_7d493 rfl dm_J0_coder_7d493 (Rcv.word hSP hi) (Nat.le_refl _) rfl rfl (Nat.le_of_ble_eq_true rfl) (rmOK_b rfl) (fun r w2 hp => ?_)
  obtain ⟨rfl, rfl⟩ := hp
  refine J_ishr C dJ0_length_8abf5_9 ?_
  refine hQ _ _ _ _ dJ0_length_8abf5_10 ⟨rfl, ?_⟩
  rw [sc_shr0 (by have := (s_all i hi).2; omega)]
abbrev rmJ3_checkIndex_8e157 : Room := { frames := 0, cells := 0, slots := 0, locals := 0 }
set_option maxRecDepth 100000 in
set_option maxHeartbeats 4000000 in
theorem c_checkIndex3 (E : EN) (hE : ∀ k, eS E k = true → k < eN E) (V : SV) (N : Nat) (w : Nat → va_E) (k n : Nat) (hk : k < n) (hn : n < 2 ^ 31) (v : Value) (hv : v.category = 1) : CtIS E V N N yJ3_checkIndex_8e157 wsJ3_checkIndex_8e157 rmJ3_checkIndex_8e157 0 0 [.int (nI k), .int (nI n), v] w (fun r w2 => w2 = w ∧ r = nI k) := by
  refine CtSI_of (cc := cJ3_checkIndex_8e157) (nL := 3) RJ3 [some (.int (nI k)), some (.int (nI n)), some v] ⟨rfl, rfl⟩ (by decide) rfl rfl (by cases v <;> first | exact Nat.le_of_ble_eq_true rfl | exact absurd hv (by simp [Value.category])) ⟨0, by cases v <;> first | rfl | exact absurd hv (by simp [Value.category])⟩ hE (fun Y C hSP hQ => ?_)
  refine J_iload_0 C dJ3_checkIndex_8e157_0 ?_
  refine J_if_lt C 9 dJ3_checkIndex_8e157_1 (by decide) (fun hc => absurd hc (nI_pos (by omega))) (fun _ => ?_)
  refine J_iload_0 C dJ3_checkIndex_8e157_4 ?_
  refine J_iload_1 C dJ3_checkIndex_8e157_5 ?_
  refine J_icmp_lt C 16 dJ3_checkIndex_8e157_6 (by decide) (fun _ => ?_) (fun hc => absurd (nI_lt hk hn) hc)
  refine J_iload_0 C dJ3_checkIndex_8e157_16 ?_
  exact hQ _ _ _ _ dJ3_checkIndex_8e157_17 ⟨rfl, rfl⟩
abbrev rmJ0_checkIndex_df160 : Room := { frames := 1, cells := 0, slots := 0, locals := 22 }
theorem fsJ0_checkIndex_df160_1053 : Cond.fieldLink RJ0 1053 "jdk/internal/util/Preconditions" "SIOOBE_FORMATTER" "Ljava/util/function/BiFunction;" ∈ wsJ0_checkIndex_df160 := by decide +kernel
theorem dm_J3_checkIndex_8e157 : yJ3_checkIndex_8e157.cls ≠ "java/lang/invoke/MethodHandle" ∧ yJ3_checkIndex_8e157.cls ≠ "java/lang/invoke/VarHandle" ∧ (parseMethodDescriptor yJ3_checkIndex_8e157.desc).map (fun d => d.parameters.length) = some 3 := by decide +kernel
set_option maxRecDepth 100000 in
set_option maxHeartbeats 4000000 in
theorem c_checkIndex0 (E : EN) (hE : ∀ k, eS E k = true → k < eN E) (V : SV) (N : Nat) (w : Nat → va_E) (k n : Nat) (hk : k < n) (hn : n < 2 ^ 31) : CtVS E V N N yJ0_checkIndex_df160 wsJ0_checkIndex_df160 rmJ0_checkIndex_df160 0 0 [.int (nI k), .int (nI n)] w (fun w2 => w2 = w) := by
  refine CtSV_of (cc := cJ0_checkIndex_df160) (nL := 2) RJ0 [some (.int (nI k)), some (.int (nI n))] ⟨rfl, rfl⟩ (by decide) rfl rfl (Nat.le_of_ble_eq_true rfl) ⟨0, rfl⟩ hE (fun Y C hSP hQ => ?_)
  refine J_iload_0 C dJ0_checkIndex_df160_0 ?_
  refine J_iload_1 C dJ0_checkIndex_df160_1 ?_
  refine J_gets C hSP.2.2.2.1 fsJ0_checkIndex_df160_1053 dJ0_checkIndex_df160_2 ?_
  refine J_csSi C hSP dJ0_checkIndex_df160_5 (c_checkIndex3 E hE V N w k n hk hn V.2.2 hSP.2.2.2.2) gJ0_checkIndex_df160_J3_checkIndex_8e157 rfl dm_J3_checkIndex_8e157 (Nat.le_refl _) rfl rfl (Nat.le_of_ble_eq_true rfl) (rmOK_b rfl) (fun r w2 hp => ?_)
  obtain ⟨rfl, rfl⟩ := hp
  refine J_pop C dJ0_checkIndex_df160_8 rfl ?_
  exact hQ _ _ _ dJ0_checkIndex_df160_9 rfl
abbrev rmJ1_charAt_3b067 : Room := { frames := 2, cells := 0, slots := 0, locals := 43 }
theorem dm_J0_checkIndex_df160 : yJ0_checkIndex_df160.cls ≠ "java/lang/invoke/MethodHandle" ∧ yJ0_checkIndex_df160.cls ≠ "java/lang/invoke/VarHandle" ∧ (parseMethodDescriptor yJ0_checkIndex_df160.desc).map (fun d => d.parameters.length) = some 2 := by decide +kernel
set_option maxRecDepth 100000 in
set_option maxHeartbeats 4000000 in
theorem c_charAt1 (E : EN) (hE : ∀ k, eS E k = true → k < eN E) (V : SV) (N : Nat) (w : Nat → va_E) (i k : Nat) (hi : i < 6) (hk : k < lenS.getD i 0) : CtIS E V N N yJ1_charAt_3b067 wsJ1_charAt_3b067 rmJ1_charAt_3b067 0 0 [.ref (V.2.1 i), .int (nI k)] w (fun r w2 => w2 = w ∧ r = nI ((chS.getD i []).getD k 0)) := by
  have h5 := (s_all i hi).2
  obtain ⟨b1, b2, b3⟩ := s_byte i hi k hk
  refine CtSN_of (cc := cJ1_charAt_3b067) (nL := 2) RJ1 [some (.ref (V.2.1 i)), some (.int (nI k))] ⟨rfl, rfl⟩ (by decide) rfl rfl (Nat.le_of_ble_eq_true rfl) ⟨0, rfl⟩ hE (fun Y C hSP hQ => ?_)
  refine J_iload_1 C dJ1_charAt_3b067_0 ?_
  refine J_aload_0 C dJ1_charAt_3b067_1 ?_
  refine J_tlen C (hSP.1.1 i hi).2.2.2 dJ1_charAt_3b067_2 ?_
  refine J_csSv C hSP dJ1_charAt_3b067_3 (c_checkIndex0 E hE V N w k (lenS.getD i 0) hk (by omega)) gJ1_charAt_3b067_J0_checkIndex_df160 rfl dm_J0_checkIndex_df160 (Nat.le_refl _) rfl rfl (Nat.le_of_ble_eq_true rfl) (rmOK_b rfl) (fun w2 hp => ?_)
  subst hp
  refine J_aload_0 C dJ1_charAt_3b067_6 ?_
  refine J_iload_1 C dJ1_charAt_3b067_7 ?_
  refine J_tb C (hSP.1.1 i hi).2.2.2 k rfl hk (by omega) dJ1_charAt_3b067_8 ?_
  rw [b1]
  refine J_sipush C (255) dJ1_charAt_3b067_9 sc_255 ?_
  refine J_iand C dJ1_charAt_3b067_12 ?_
  rw [show (255 : Int32) = nI 255 by decide, nI_and, b3]
  refine J_i2c C _ dJ1_charAt_3b067_13 (c2_ok _ b2) ?_
  exact hQ _ _ _ _ dJ1_charAt_3b067_14 (pk_charN (by omega)).1 ⟨rfl, rfl⟩
abbrev rmJ0_charAt_5068e : Room := { frames := 3, cells := 0, slots := 0, locals := 64 }
theorem fsJ0_charAt_5068e_9 : Cond.fieldLink RJ0 9 "java/lang/String" "value" "[B" ∈ wsJ0_charAt_5068e := by decide +kernel
theorem dm_J0_isLatin1_aae02 : yJ0_isLatin1_aae02.cls = RJ0 ∧ yJ0_isLatin1_aae02.cls ≠ "java/lang/invoke/MethodHandle" ∧ yJ0_isLatin1_aae02.cls ≠ "java/lang/invoke/VarHandle" ∧ (parseMethodDescriptor yJ0_isLatin1_aae02.desc).map (fun d => d.parameters.length) = some 0 := by decide +kernel
theorem dm_J1_charAt_3b067 : yJ1_charAt_3b067.cls ≠ "java/lang/invoke/MethodHandle" ∧ yJ1_charAt_3b067.cls ≠ "java/lang/invoke/VarHandle" ∧ (parseMethodDescriptor yJ1_charAt_3b067.desc).map (fun d => d.parameters.length) = some 2 := by decide +kernel
set_option maxRecDepth 100000 in
set_option maxHeartbeats 4000000 in
theorem c_charAt (E : EN) (hE : ∀ k, eS E k = true → k < eN E) (V : SV) (N : Nat) (w : Nat → va_E) (i k : Nat) (hi : i < 6) (hk : k < lenS.getD i 0) : CtIS E V N N yJ0_charAt_5068e wsJ0_charAt_5068e rmJ0_charAt_5068e 0 0 [.ref (V.1 i), .int (nI k)] w (fun r w2 => w2 = w ∧ r = nI ((chS.getD i []).getD k 0)) := by
  obtain ⟨b1, b2, b3⟩ := s_byte i hi k hk
  refine CtSN_of (cc := cJ0_charAt_5068e) (nL := 2) RJ0 [some (.ref (V.1 i)), some (.int (nI k))] ⟨rfl, rfl⟩ (by decide) rfl rfl (Nat.le_of_ble_eq_true rfl) ⟨0, rfl⟩ hE (fun Y C hSP hQ => ?_)
  refine J_aload_0 C dJ0_charAt_5068e_0 ?_
  refine J_cvSi C hSP dJ0_charAt_5068e_1 (c_isLatin1 E hE V N w i hi) gJ0_charAt_5068e_J0_isLatin1_aae02 rfl dm_J0_isLatin1_aae02 (Rcv.word hSP hi) (Nat.le_refl _) rfl rfl (Nat.le_of_ble_eq_true rfl) (rmOK_b rfl) (fun r w2 hp => ?_)
  obtain ⟨rfl, rfl⟩ := hp
  refine J_if_eq C 16 dJ0_charAt_5068e_4 (by decide) (fun hc => absurd hc (by decide)) (fun _ => ?_)
  refine J_aload_0 C dJ0_charAt_5068e_7 ?_
  refine J_ofget C (hSP.1.1 i hi).2.2.1 fsJ0_charAt_5068e_9 dJ0_charAt_5068e_8 ?_
  refine J_iload_1 C dJ0_charAt_5068e_11 ?_
  refine J_csSi C hSP dJ0_charAt_5068e_12 (c_charAt1 E hE V N _ i k hi hk) gJ0_charAt_5068e_J1_charAt_3b067 rfl dm_J1_charAt_3b067 (Nat.le_refl _) rfl rfl (Nat.le_of_ble_eq_true rfl) (rmOK_b rfl) (fun r w2 hp => ?_)
  obtain ⟨rfl, rfl⟩ := hp
  exact hQ _ _ _ _ dJ0_charAt_5068e_15 (pk_charN (by omega)).1 ⟨rfl, rfl⟩
