/-! THE CLAIM OUT OF ONE WALK OF THE LAW'S BODY. Your part is whole_start (and what it stands on); all else here is the same for every law, but numbers. -/
def R_law : String := "FallowFerryLaw"
def lw_P (b : Addr) (xs : List Int32) (args : Array Value) (s : State) : Prop := args = #[.ref b] ∧ s.IntsAt b xs ∧ xs.length ≤ 2048 ∧ (Jvm.Cond.and given_1 narrow_1).before args s = true
def lw_Q (_ : Array Value) (s : State) (o : Outcome) (t : State) : Prop := o = .returned (some (.int 1)) ∧ Framed s o t [] 600000 7302250
def lw_Z (below : List Frame) (a : Array Value) (s : State) : State → Prop := fun t => ∃ o, t.status = .running ∧ Ended t below o ∧ lw_Q a s o t
/-- the law's own end, with 1 on the stack, nothing written that was there before, its room as the claim has it -/
theorem lw_ret {p : Program} {l : Launch} {e : Env} {s : State} {m : MethodId} {below : List Frame} {meth : Method} {c : Code} {b : Nat} (hx : p.tables.exec = Jvm.exec) (hb : c.code = code) (hr : meth.sig.returnType = ret) (hlocks : meth.locks = false) {pc : Nat} {H : Heap} {ls : Array Slot} (hdg : decode code pc = .ok (.ireturn, 1)) : W p l e room_1 s m #[Value.ref b] below meth c H [] 600000 7302250 (lw_Z below #[Value.ref b] s) (F0 m pc ls [.int 1]) := by
  intro T hT X
  obtain ⟨fs, hret, hrun, hended, hW, hframe⟩ := X.leave (v := some (.int 1)) (hlocks := hlocks) (fun h => by rw [hr] at h; cases h)
  have hmeth' : T.vm.method? m = some meth := X.method'
  refine ⟨T.setFrames fs, ?_, .returned (some (.int 1)), hrun, hended, rfl, ⟨_, rfl⟩, hW, hframe⟩
  jvm_step X.here [X.here.top, hx, hb, hdg, hmeth', hr, ret, narrow_b1]
  (try refine ⟨rfl, ?_⟩); (try refine ⟨rfl, ?_⟩)
  first | (intro acts; rw [hret _ acts rfl rfl rfl]) | rw [hret _ _ rfl rfl rfl]
  exact Steps.refl _
/-- what holds at the law's entry: the machine, the code, the tables' words (any of lw_tbl by 'hts w (by decide +kernel)'), the script of L ints xs at the cell b, what the Statement gives of the start (any of its parts by flat_of_before) -/
def lw_At (p : Program) (s : State) (m : MethodId) (meth : Method) (c : Code) (b L : Nat) (xs : Nat → Int32) : Prop :=
  p.tables.exec = Jvm.exec ∧ c.code = code ∧ meth.sig.returnType = ret ∧ c.maxLocals = 4 ∧ s.vm.findClass R_law = some m.cls ∧ (∀ w ∈ lw_tbl, w.before #[Value.ref b] s = true) ∧ va_X b L xs s s.heap ∧ b < s.heap.size ∧ meth.locks = false ∧ (Jvm.Cond.and given_1 narrow_1).before #[Value.ref b] s = true
def lawY (p : Program) (e : Env) (s : State) (m : MethodId) (below : List Frame) (meth : Method) (c : Code) (b : Nat) : YN := (p, e, room_1, s, m, #[Value.ref b], below, meth, c, 4, (fun q => s.heap.size ≤ q), lw_Z below #[Value.ref b] s)
section LR
variable {E : EN} {Y : YN} {cc : ByteArray} {nL : Nat} {own : String} {Ts : List Cond} {R : Room} {N cs ss : Nat} {w : Nat → va_E} {pc : Nat} {lv : List (Option Value)} {st : List Value}
theorem J_sld (C : Cx E Y cc nL own Ts R) {b L : Nat} {xs : Nat → Int32} (hX : va_X b L xs (ys Y) (ys Y).heap) (hbl : b < (ys Y).heap.size) (hbA : ¬ yA Y b) {i : Int32} (j : Nat) (hi : i = nI j) (hj : j < L) (hL : L < 2 ^ 31) (hd : decode cc pc = .ok (.iaload, 1)) (kk : J E Y N cs ss w (pc + 1) lv (.int (xs j) :: st)) : J E Y N cs ss w pc lv (.int i :: .ref b :: st) := fun H locs ls hI hl => by
  subst hi
  exact va_sld C.1 C.2.1 hX hbl hbA hI.2.2.2.2 (nI_in hj hL) hd (by rw [nI_clamp (by omega)]; exact kk H locs ls hI hl)
theorem J_slen (C : Cx E Y cc nL own Ts R) {b L : Nat} {xs : Nat → Int32} (hX : va_X b L xs (ys Y) (ys Y).heap) (hbl : b < (ys Y).heap.size) (hbA : ¬ yA Y b) (hd : decode cc pc = .ok (.arraylength, 1)) (kk : J E Y N cs ss w (pc + 1) lv (.int (nI L) :: st)) : J E Y N cs ss w pc lv (.ref b :: st) := fun H locs ls hI hl => va_slen C.1 C.2.1 hX hbl hbA hI.2.2.2.2 hd (kk H locs ls hI hl)
end LR
theorem J_lret {p : Program} {e : Env} {s : State} {m : MethodId} {below : List Frame} {meth : Method} {c : Code} {b : Nat} (hx : p.tables.exec = Jvm.exec) (hb : c.code = code) (hr : meth.sig.returnType = ret) (hlocks : meth.locks = false) {E : EN} {N cs ss : Nat} {w : Nat → va_E} {pc : Nat} {lv : List (Option Value)} (hd : decode code pc = .ok (.ireturn, 1)) (h1 : cs ≤ 600000) (h2 : ss ≤ 7302250) : J E (lawY p e s m below meth c b) N cs ss w pc lv [.int 1] := fun H locs ls hI hls => va_forget (fun q hq => hI.2.2.2.2.2.2 q hq) (W.widen h1 h2 (lw_ret hx hb hr hlocks hd))
theorem lawIn {L i : Nat} (hL : L ≤ 2048) (hi : 4 * i ≤ L) (h : ¬ nI L - 4 < nI (4 * i)) : 4 * i + 4 ≤ L := by
  have h2 : ¬ nI L - nI 4 < nI (4 * i) := h
  rw [Int32.lt_iff_toInt_lt, pk_sub_toInt (by omega) (by decide), nI_toInt (by omega)] at h2
  omega
