/-! the reference's first plan is the chain of the first standing that will do -/
def pth (c : Nat → Nat → Option Nat) (l : List BE) : Nat → Nat → Nat → Prop
  | 0, i, j => i = j
  | d + 1, i, j => ∃ (b i' : Nat) (e e' : BE), l[i]? = some e ∧ l[i']? = some e' ∧ c e.1 b = some e'.1 ∧ e'.2.1 = e.2.1 + 1 ∧ pth c l d i' j
def Lead (c : Nat → Nat → Option Nat) (l : List BE) (G : BE → Prop) (n i : Nat) : Prop := ∃ e, l[i]? = some e ∧ e.2.1 ≤ n ∧ ∃ j f, l[j]? = some f ∧ G f ∧ pth c l (n - e.2.1) i j
def LBy (c : Nat → Nat → Option Nat) (l : List BE) (G : BE → Prop) (n : Nat) (e : BE) (b : Nat) : Prop := ∃ (i' : Nat) (e' : BE), c e.1 b = some e'.1 ∧ l[i']? = some e' ∧ e'.2.1 = e.2.1 + 1 ∧ Lead c l G n i'
theorem lead_eq {c : Nat → Nat → Option Nat} {l : List BE} {G : BE → Prop} {n i : Nat} {e : BE} (he : l[i]? = some e) (hn : e.2.1 = n) : Lead c l G n i ↔ G e := by
  constructor
  · rintro ⟨e', h1, h2, j, f, h3, h4, h5⟩
    rw [he] at h1
    cases h1
    rw [hn, Nat.sub_self] at h5
    have : i = j := h5
    subst this
    rw [he] at h3
    cases h3
    exact h4
  · intro h
    refine ⟨e, he, by omega, i, e, he, h, ?_⟩
    rw [hn, Nat.sub_self]
    rfl
theorem lead_gt {c : Nat → Nat → Option Nat} {l : List BE} {G : BE → Prop} {n i : Nat} {e : BE} (he : l[i]? = some e) (hn : n < e.2.1) : ¬ Lead c l G n i := by
  rintro ⟨e', h1, h2, -⟩
  rw [he] at h1
  cases h1
  omega
theorem lead_lt {c : Nat → Nat → Option Nat} {l : List BE} {G : BE → Prop} {n i : Nat} {e : BE} (he : l[i]? = some e) (hn : e.2.1 < n) : Lead c l G n i ↔ ∃ b, LBy c l G n e b := by
  constructor
  · rintro ⟨e', h1, h2, j, f, h3, h4, h5⟩
    rw [he] at h1
    cases h1
    rw [show n - e.2.1 = (n - (e.2.1 + 1)) + 1 by omega] at h5
    obtain ⟨b, i', e1, e2, a1, a2, a3, a4, a5⟩ := h5
    rw [he] at a1
    cases a1
    exact ⟨b, i', e2, a3, a2, a4, e2, a2, by omega, j, f, h3, h4, by rw [a4]; exact a5⟩
  · rintro ⟨b, i', e', h1, h2, h3, e2, a1, a2, j, f, a3, a4, a5⟩
    rw [h2] at a1
    cases a1
    refine ⟨e, he, by omega, j, f, a3, a4, ?_⟩
    rw [show n - e.2.1 = (n - (e.2.1 + 1)) + 1 by omega]
    exact ⟨b, i', e, e', he, h2, h1, h3, by rw [← h3]; exact a5⟩
/-- all crossings from all that are found are tried -/
theorem BI.full {c : Nat → Nat → Option Nat} {B s0 : Nat} {l : List BE} (h : BI c B s0 l 256 0) {p : Nat} {q : BE} {b t : Nat} (hp : l[p]? = some q) (hb : b < B) (ht : c q.1 b = some t) : ∃ (i : Nat) (e : BE), l[i]? = some e ∧ e.1 = t ∧ (i = 0 ∨ llt e.2.2.1 e.2.2.2 p (b + 1)) := h.2.2.2.2.2 p q b t hp (Or.inl (Nat.lt_of_lt_of_le (get_lt hp) h.len)) hb ht
theorem ord_lt {c : Nat → Nat → Option Nat} {B s0 kk jj : Nat} {l : List BE} (h : BI c B s0 l kk jj) {i i' : Nat} {e e' : BE} (hi : 0 < i) (hi' : 0 < i') (he : l[i]? = some e) (he' : l[i']? = some e') (hl : llt e.2.2.1 e.2.2.2 e'.2.2.1 e'.2.2.2) : i < i' := by
  rcases Nat.lt_trichotomy i i' with q | q | q
  · exact q
  · subst q
    rw [he] at he'
    cases he'
    unfold llt at hl
    omega
  · have := h.2.2.2.2.1 i' i e' e hi' q he' he
    unfold llt at hl this
    omega
theorem pth_before {c : Nat → Nat → Option Nat} {B s0 : Nat} {l : List BE} (h : BI c B s0 l 256 0) (hcB : ∀ s b t, s < 256 → c s b = some t → b < B) {p : Nat} {ep : BE} (hp : l[p]? = some ep) : ∀ (d i j : Nat) (e : BE), d ≤ ep.2.1 → l[i]? = some e → i < anc l p d → pth c l d i j → j < p
  | 0, i, j, e, _, _, hi, hpt => by
    have : i = j := hpt
    subst this
    exact hi
  | d + 1, i, j, e, hd, he, hi, hpt => by
    obtain ⟨b, i2, e1, e2, a1, a2, a3, a4, a5⟩ := hpt
    rw [he] at a1
    cases a1
    obtain ⟨q, hq, hqs⟩ := anc_ok h hp d (by omega)
    have hq0 : 0 < anc l p d := by
      rcases Nat.eq_zero_or_pos (anc l p d) with z | z
      · rw [z, h.1] at hq
        cases hq
        simp at hqs
        omega
      · exact z
    have hfrom : anc l p (d + 1) = q.2.2.1 := by
      show frm l (anc l p d) = _
      unfold frm
      rw [getD_of hq]
    have hi20 : 0 < i2 := by
      rcases Nat.eq_zero_or_pos i2 with z | z
      · subst z
        rw [h.1] at a2
        cases a2
        simp at a4
      · exact z
    obtain ⟨i3, e3, b1, b2, b3⟩ := h.full he (hcB e.1 b _ (h.2.2.1 i e he) a3) a3
    have : i3 = i2 := h.2.1 i3 i2 e3 e2 b1 a2 b2
    subst this
    rw [a2] at b1
    cases b1
    have hlt : i3 < anc l p d := by
      refine ord_lt h hi20 hq0 a2 hq ?_
      rw [hfrom] at hi
      unfold llt at b3 ⊢
      omega
    exact pth_before h hcB hp d i3 j e2 (by omega) a2 hlt a5
/-- the chain's next set is the first that leads to the end -/
theorem plan_step {c : Nat → Nat → Option Nat} {B s0 : Nat} {l : List BE} {G : BE → Prop} (h : BI c B s0 l 256 0) (hcB : ∀ s b t, s < 256 → c s b = some t → b < B) {p n : Nat} {ep : BE} (hp : l[p]? = some ep) (hn : ep.2.1 = n) (hG : G ep) (hfirst : ∀ (j : Nat) (f : BE), j < p → l[j]? = some f → ¬ G f) (d : Nat) (hd : d < n) {q : BE} (hq : l[anc l p (d + 1)]? = some q) :
    (∀ b, b < sts l (anc l p d) → ¬ LBy c l G n q b) ∧ LBy c l G n q (sts l (anc l p d)) ∧ ∃ e', l[anc l p d]? = some e' ∧ c q.1 (sts l (anc l p d)) = some e'.1 ∧ e'.2.1 = q.2.1 + 1 := by
  obtain ⟨e', he', hes⟩ := anc_ok h hp d (by omega)
  obtain ⟨q2, hq2, hqs⟩ := anc_ok h hp (d + 1) (by omega)
  rw [hq] at hq2
  cases hq2
  have h0 : 0 < anc l p d := by
    rcases Nat.eq_zero_or_pos (anc l p d) with z | z
    · rw [z, h.1] at he'
      cases he'
      simp at hes
      omega
    · exact z
  have hfrom : anc l p (d + 1) = e'.2.2.1 := by
    show frm l (anc l p d) = _
    unfold frm
    rw [getD_of he']
  have hset : sts l (anc l p d) = e'.2.2.2 := by
    unfold sts
    rw [getD_of he']
  obtain ⟨-, -, -, q3, a4, a5, a6⟩ := h.2.2.2.1 _ e' he' h0
  rw [← hfrom, hq] at a4
  cases a4
  have hleadp : ∀ d, d ≤ n → Lead c l G n (anc l p d) := by
    intro d
    induction d with
    | zero =>
      intro _
      exact (lead_eq hp hn).mpr hG
    | succ d ih =>
      intro hd
      obtain ⟨e1, h1, h1s⟩ := anc_ok h hp d (by omega)
      obtain ⟨e2, h2, h2s⟩ := anc_ok h hp (d + 1) (by omega)
      have z0 : 0 < anc l p d := by
        rcases Nat.eq_zero_or_pos (anc l p d) with z | z
        · rw [z, h.1] at h1
          cases h1
          simp at h1s
          omega
        · exact z
      obtain ⟨-, -, -, p3, b4, b5, b6⟩ := h.2.2.2.1 _ e1 h1 z0
      have hf : anc l p (d + 1) = e1.2.2.1 := by
        show frm l (anc l p d) = _
        unfold frm
        rw [getD_of h1]
      rw [← hf, h2] at b4
      cases b4
      exact (lead_lt h2 (by omega)).mpr ⟨_, _, e1, b5, h1, b6, ih (by omega)⟩
  refine ⟨fun b hb hL => ?_, ⟨anc l p d, e', by rw [hset]; exact a5, he', a6, hleadp d (by omega)⟩, e', he', by rw [hset]; exact a5, a6⟩
  obtain ⟨i', e2, c1, c2, c3, e3, c4, c5, j, f, c6, c7, c8⟩ := hL
  rw [c2] at c4
  cases c4
  obtain ⟨i3, e3, b1, b2, b3⟩ := h.full hq (hcB q.1 b _ (h.2.2.1 _ q hq) c1) c1
  have : i3 = i' := h.2.1 i3 i' e3 e2 b1 c2 b2
  subst this
  rw [c2] at b1
  cases b1
  have hi0 : 0 < i3 := by
    rcases Nat.eq_zero_or_pos i3 with z | z
    · subst z
      rw [h.1] at c2
      cases c2
      simp at c3
    · exact z
  have hlt : i3 < anc l p d := by
    refine ord_lt h hi0 h0 c2 he' ?_
    rw [hset] at hb
    unfold llt at b3 ⊢
    omega
  have hdd : n - e2.2.1 = d := by omega
  rw [hdd] at c8
  exact hfirst j f (pth_before h hcB hp d i3 j e2 (by omega) c2 hlt c8) c6 c7
/-- what the row of standings that lead on says of places from k on -/
def LdOK (c : Nat → Nat → Option Nat) (l : List BE) (G : BE → Prop) (n k : Nat) (f : Nat → Int32) : Prop := ∀ (i : Nat) (e : BE), k ≤ i → l[i]? = some e → (f e.1 = 1 ∧ Lead c l G n i) ∨ (f e.1 = 0 ∧ ¬ Lead c l G n i)
def LdIn (c : Nat → Nat → Option Nat) (l : List BE) (G : BE → Prop) (n k b : Nat) (e : BE) (f : Nat → Int32) : Prop := (f e.1 = 1 ∧ Lead c l G n k) ∨ (f e.1 = 0 ∧ (e.2.1 = n → ¬ G e) ∧ (e.2.1 < n → ∀ b', b' < b → ¬ LBy c l G n e b'))
theorem LdOK.put {c : Nat → Nat → Option Nat} {B s0 kk jj : Nat} {l : List BE} {G : BE → Prop} {n k : Nat} {f : Nat → Int32} (hB : BI c B s0 l kk jj) (h : LdOK c l G n (k + 1) f) {e : BE} (he : l[k]? = some e) (x : Int32) : LdOK c l G n (k + 1) (upd f e.1 x) := by
  intro i e' hi he'
  have hne : e'.1 ≠ e.1 := by
    intro q
    have := hB.2.1 i k e' e he' he q
    omega
  simp only [upd, if_neg hne]
  exact h i e' hi he'
theorem LdOK.down {c : Nat → Nat → Option Nat} {l : List BE} {G : BE → Prop} {n k : Nat} {f : Nat → Int32} (h : LdOK c l G n (k + 1) f) {e : BE} (he : l[k]? = some e) (hk : (f e.1 = 1 ∧ Lead c l G n k) ∨ (f e.1 = 0 ∧ ¬ Lead c l G n k)) : LdOK c l G n k f := by
  intro i e' hi he'
  by_cases q : i = k
  · subst q
    rw [he] at he'
    cases he'
    exact hk
  · exact h i e' (by omega) he'
theorem LdIn.end {c : Nat → Nat → Option Nat} {l : List BE} {G : BE → Prop} {n k b B : Nat} {e : BE} {f : Nat → Int32} (he : l[k]? = some e) (hs : e.1 < 256) (hcB : ∀ s b t, s < 256 → c s b = some t → b < B) (h : LdIn c l G n k b e f) (hb : e.2.1 < n → B ≤ b) : (f e.1 = 1 ∧ Lead c l G n k) ∨ (f e.1 = 0 ∧ ¬ Lead c l G n k) := by
  rcases h with h | ⟨h1, h2, h3⟩
  · exact Or.inl h
  · refine Or.inr ⟨h1, fun hL => ?_⟩
    rcases Nat.lt_trichotomy e.2.1 n with q | q | q
    · obtain ⟨b', hb'⟩ := (lead_lt he q).mp hL
      obtain ⟨i', e', a1, -⟩ := id hb'
      have := hcB e.1 b' _ hs a1
      exact h3 q b' (by have := hb q; omega) hb'
    · exact h2 q ((lead_eq he q).mp hL)
    · exact lead_gt he q hL

abbrev rmX6_plans : Room := { frames := 4, cells := 0, slots := 0, locals := 90 }
theorem fX6_plans_180 : Cond.fieldLink RX6 180 RX6 (TX6 11).2.1 (TX6 11).2.2.1 ∈ wsX6_plans := by decide +kernel
theorem fX6_plans_227 : Cond.fieldLink RX6 227 RX6 (TX6 34).2.1 (TX6 34).2.2.1 ∈ wsX6_plans := by decide +kernel
theorem fX6_plans_25 : Cond.fieldLink RX6 25 RX6 (TX6 8).2.1 (TX6 8).2.2.1 ∈ wsX6_plans := by decide +kernel
theorem fX6_plans_62 : Cond.fieldLink RX6 62 RX6 (TX6 32).2.1 (TX6 32).2.2.1 ∈ wsX6_plans := by decide +kernel
theorem fX6_plans_65 : Cond.fieldLink RX6 65 RX6 (TX6 33).2.1 (TX6 33).2.2.1 ∈ wsX6_plans := by decide +kernel
theorem fX6_plans_68 : Cond.fieldLink RX6 68 RX6 (TX6 35).2.1 (TX6 35).2.2.1 ∈ wsX6_plans := by decide +kernel
theorem fX6_plans_72 : Cond.fieldLink RX6 72 RX6 (TX6 36).2.1 (TX6 36).2.2.1 ∈ wsX6_plans := by decide +kernel
theorem fX6_plans_82 : Cond.fieldLink RX6 82 RX6 (TX6 2).2.1 (TX6 2).2.2.1 ∈ wsX6_plans := by decide +kernel
theorem iX6_plans_6 : ∀ x ∈ wsX60, x ∈ wsX6_plans := by decide +kernel
theorem dm_X6_rentOf : yX6_rentOf.cls = RX6 ∧ yX6_rentOf.cls ≠ "java/lang/invoke/MethodHandle" ∧ yX6_rentOf.cls ≠ "java/lang/invoke/VarHandle" ∧ (parseMethodDescriptor yX6_rentOf.desc).map (fun d => d.parameters.length) = some 1 := by decide +kernel
set_option maxRecDepth 100000 in
set_option maxHeartbeats 4000000 in
theorem c_X6_plans (E : EN) (hM : EM E) (m : Nat) (ρ : Nat → Nat → Nat) (g : Nat → Int32) (h : Nat → Int64) (T : Nat → Nat → Int32) (L : Nat → Nat → Int64) (hR : RvM g T m ρ) (a ld : Nat) (ha : a < 256) (hld : ld < 1000) (hgl : g 4808 = nI ld) (hgs : g 4811 = nI a) (hX : rpM g T (bfs (crN m (ρ 2) (ρ 3) ld (2 ^ m - 1)) (2 ^ m) a)) (n rn : Nat) (hrn : rn < 2 ^ 31) (rt : Bool) (p : Nat) (ep : BE) (hp : (bfs (crN m (ρ 2) (ρ 3) ld (2 ^ m - 1)) (2 ^ m) a)[p]? = some ep) (hG : (fun e => e.2.1 = n ∧ rtE ρ m e ≤ rn ∧ (rt = true → wrN (ρ 0) e.1 m = 0)) ep) (hfirst : ∀ (j : Nat) (f : BE), j < p → (bfs (crN m (ρ 2) (ρ 3) ld (2 ^ m - 1)) (2 ^ m) a)[j]? = some f → ¬ (fun e => e.2.1 = n ∧ rtE ρ m e ≤ rn ∧ (rt = true → wrN (ρ 0) e.1 m = 0)) f) : GtV E yX6_plans wsX6_plans rmX6_plans [.ref (eA E 48), .int (nI n), .int (nI rn), .int (if rt = true then 1 else 0)] g h T L (fun g2 h2 T2 L2 => h2 = h ∧ L2 = L ∧ g2 = g ∧ (∀ k, k ≠ 64 → k ≠ 65 → T2 k = T k) ∧ ∀ i, i < n → T2 65 i = nI (sts (bfs (crN m (ρ 2) (ρ 3) ld (2 ^ m - 1)) (2 ^ m) a) (anc (bfs (crN m (ρ 2) (ρ 3) ld (2 ^ m - 1)) (2 ^ m) a) p (n - 1 - i)))) := by
  refine CtV_of (cc := cX6_plans) (nL := 8) RX6 [some (.ref (eA E 48)), some (.int (nI n)), some (.int (nI rn)), some (.int (if rt = true then 1 else 0)), none, none, none, none] ⟨rfl, rfl⟩ (by decide) rfl rfl (Nat.le_of_ble_eq_true rfl) ⟨4, rfl⟩ hM.2 (fun Y hnm C hQ => ?_)
  have hM0 := hM
  obtain ⟨hS, hNN⟩ := hM
  have hm := hR.1
  have h7 := p7 hm
  have hBI := bfs_BI (wt := ρ 2) (fr := ρ 3) (ld := ld) (th := 2 ^ m - 1) hm ha
  obtain ⟨l, hl⟩ : ∃ l, l = bfs (crN m (ρ 2) (ρ 3) ld (2 ^ m - 1)) (2 ^ m) a := ⟨_, rfl⟩
  obtain ⟨c, hc⟩ : ∃ c, c = (crN m (ρ 2) (ρ 3) ld (2 ^ m - 1)) := ⟨_, rfl⟩
  obtain ⟨G, hGe⟩ : ∃ G : BE → Prop, G = (fun e => e.2.1 = n ∧ rtE ρ m e ≤ rn ∧ (rt = true → wrN (ρ 0) e.1 m = 0)) := ⟨_, rfl⟩
  have hcB : ∀ s b t, s < 256 → c s b = some t → b < 2 ^ m := fun s b t hs h => by rw [hc] at h; exact (crN_lt hm hs h).2
  have hcl : ∀ s b t, s < 256 → c s b = some t → t < 256 := fun s b t hs h => by rw [hc] at h; exact (crN_lt hm hs h).1
  rw [← hl] at hX hp hfirst
  rw [← hl, ← hc] at hBI
  rw [← hGe] at hfirst
  have hG0 : G ep := by rw [hGe]; exact hG
  have hlen := hBI.len
  have hnp : n < 256 := by have := steps_le hBI p ep hp; have := get_lt hp; have := hG.1; omega
  have hRf : ∀ T2 : Nat → Nat → Int32, (∀ k, k ≠ 64 → k ≠ 65 → T2 k = T k) → RvM g T2 m ρ ∧ rpM g T2 l := fun T2 h => by
    obtain ⟨a1, a2, a3, a4⟩ := hR
    obtain ⟨b1, b2, b3⟩ := hX
    refine ⟨⟨a1, a2, ?_, a4⟩, b1, ?_, ?_⟩
    · rw [h 50 (by decide) (by decide), h 51 (by decide) (by decide), h 52 (by decide) (by decide), h 53 (by decide) (by decide)]; exact a3
    · rw [h 62 (by decide) (by decide), h 63 (by decide) (by decide)]; exact b2
    · rw [h 62 (by decide) (by decide)]; exact b3
  refine J_aload_0 C dX6_plans_0 ?_
  refine G6_geti C (n := 4834) 34 dX6_plans_1 fX6_plans_227 iX6_plans_6 rfl (hS _ (by decide)) rfl rfl ?_
  refine J_iconst C (1) dX6_plans_4 ic_1 ?_
  refine J_isub C dX6_plans_5 ?_
  rw [hX.1, subm]
  refine J_istore_4 C dX6_plans_6 (by decide) trivial ?_
  have loop : ∀ (n1 : Nat) (k : Nat) (T2 : Nat → Nat → Int32) (x5 x6 x7 : Option Value), k ≤ l.length → k < n1 → (∀ i, i ≠ 64 → i ≠ 65 → T2 i = T i) → LdOK c l G n k (T2 64) → J E Y (eN E) 0 0 (wS E g h T2 L) 8 [some (.ref (eA E 48)), some (.int (nI n)), some (.int (nI rn)), some (.int (if rt = true then 1 else 0)), some (.int (nI k + (-1))), x5, x6, x7] [] := by
    intro n1
    induction n1 with
    | zero =>
      intro k T2 x5 x6 x7 h1 h2 hT2 hLd
      omega
    | succ n1 ih =>
      intro k T2 x5 x6 x7 h1 h2 hT2 hLd
      refine J_iload_4 C dX6_plans_8 ?_
      refine J_if_lt C 175 dX6_plans_10 (by decide) (fun hc10 => ?_) (fun hc10 => ?_)
      · skip
        refine J_aload_0 C dX6_plans_175 ?_
        refine G6_geti C (n := 4811) 11 dX6_plans_176 fX6_plans_180 iX6_plans_6 rfl (hS _ (by decide)) rfl rfl ?_
        rw [hgs]
        refine J_istore_4 C dX6_plans_179 (by decide) trivial ?_
        refine J_iconst C (0) dX6_plans_181 ic_0 ?_
        refine J_istore_5 C dX6_plans_182 (by decide) trivial ?_
        have loop3 : ∀ (n3 : Nat) (i : Nat) (T4 : Nat → Nat → Int32) (q : BE) (x6 x7 : Option Value), i ≤ n → n < n3 + i → (∀ k, k ≠ 64 → k ≠ 65 → T4 k = T k) → LdOK c l G n 0 (T4 64) → l[anc l p (n - i)]? = some q → (∀ j, j < i → T4 65 j = nI (sts l (anc l p (n - 1 - j)))) → J E Y (eN E) 0 0 (wS E g h T4 L) 184 [some (.ref (eA E 48)), some (.int (nI n)), some (.int (nI rn)), some (.int (if rt = true then 1 else 0)), some (.int (nI q.1)), some (.int (nI i)), x6, x7] [] := by
          intro n3
          induction n3 with
          | zero =>
            intro i T4 q x6 x7 hi1 hi2 hT4 hLd hq hpl
            omega
          | succ n3 ih3 =>
            intro i T4 q x6 x7 hi1 hi2 hT4 hLd hq hpl
            refine J_iload_5 C dX6_plans_184 ?_
            refine J_iload_1 C dX6_plans_186 ?_
            refine J_icmp_ge C 280 dX6_plans_187 (by decide) (fun hc187 => ?_) (fun hc187 => ?_)
            · skip
              refine hQ _ _ _ dX6_plans_280 ⟨_, _, _, _, rfl, ?_⟩
              have hin : i = n := by
                have := ge_nI (by omega) hc187
                omega
              subst hin
              rw [← hl]
              exact ⟨rfl, rfl, rfl, hT4, hpl⟩
            · skip
              have hin : i < n := lt_nI (by omega) hc187
              obtain ⟨d, hdi⟩ : ∃ d, n - i = d + 1 := ⟨n - i - 1, by omega⟩
              rw [hdi] at hq
              have hqa := hBI.2.2.1 _ q hq
              have hqs := steps_le hBI _ q hq
              have hql := get_lt hq
              have hstl : sts l (anc l p d) < 2 ^ m := by
                obtain ⟨i9, e9, k1, -⟩ := (plan_step hBI hcB hp hG.1 hG0 hfirst d (by omega) hq).2.1
                exact hcB q.1 _ _ hqa k1
              have hps := plan_step hBI hcB hp hG.1 hG0 hfirst d (by omega) hq
              obtain ⟨hR4, hX4⟩ := hRf T4 hT4
              refine J_iconst C (0) dX6_plans_190 ic_0 ?_
              refine J_istore_6 C dX6_plans_191 (by decide) trivial ?_
              refine J_aload_0 C dX6_plans_193 ?_
              refine J_iload_4 C dX6_plans_194 ?_
              refine J_iload_6 C dX6_plans_196 ?_
              refine J_aload_0 C dX6_plans_198 ?_
              refine G6_geti C (n := 4808) 8 dX6_plans_199 fX6_plans_25 iX6_plans_6 rfl (hS _ (by decide)) rfl rfl ?_
              rw [hgl]
              refine G_vpi C dX6_plans_202 (c_X6_crosses E hM0 m ρ g h T4 L hR4 q.1 0 ld hqa (by omega) hld) gX6_plans_X6_crosses rfl dm_X6_crosses rfl rfl (hS _ (by decide)) rfl rfl (Nat.le_of_ble_eq_true rfl) (rmOK_b rfl) (fun r202 hr202 => ?_)
              subst hr202
              refine J_top (y := oI (c q.1 0)) (by rw [hc]; rfl) ?_
              refine J_istore_7 C dX6_plans_205 (by decide) trivial ?_
              have loop4 : ∀ (n4 : Nat) (b : Nat), b ≤ sts l (anc l p d) → sts l (anc l p d) < n4 + b → J E Y (eN E) 0 0 (wS E g h T4 L) 207 [some (.ref (eA E 48)), some (.int (nI n)), some (.int (nI rn)), some (.int (if rt = true then 1 else 0)), some (.int (nI q.1)), some (.int (nI i)), some (.int (nI b)), some (.int (oI (c q.1 b)))] [] := by
                intro n4
                induction n4 with
                | zero =>
                  intro b hb1 hb2
                  omega
                | succ n4 ih4 =>
                  intro b hb1 hb2
                  refine J_iload_7 C dX6_plans_207 ?_
                  refine J_if_lt C 241 dX6_plans_209 (by decide) (fun hc209 => ?_) (fun hc209 => ?_)
                  · skip
                    have hbne : b < sts l (anc l p d) := by
                      rcases Nat.lt_or_ge b (sts l (anc l p d)) with z | z
                      · exact z
                      · exfalso
                        have hbe : b = sts l (anc l p d) := by omega
                        subst hbe
                        obtain ⟨e9, f1, f2, f3⟩ := hps.2.2
                        first
                        | (rw [f2] at hc209
                           exact absurd hc209 (nI_pos (by have := hBI.2.2.1 _ e9 f1; omega)))
                        | (rw [hto] at f2
                           have : e1.1 = e9.1 := Option.some.inj f2
                           have : i1 = anc l p d := hBI.2.1 _ _ e1 e9 he1 f1 this
                           subst this
                           rw [he1] at f1
                           cases f1
                           exact hc228 (by rw [f3]))
                        | (obtain ⟨i9, e9, k1, k2, k3, k4⟩ := hps.2.1
                           rw [hto] at k1
                           have k5 : e1.1 = e9.1 := Option.some.inj k1
                           have : i1 = i9 := hBI.2.1 _ _ e1 e9 he1 k2 k5
                           subst this
                           rcases hLd i1 e1 (Nat.zero_le _) he1 with z | z
                           · rw [z.1] at hc238
                             exact absurd hc238 (by decide)
                           · exact z.2 k4)
                    refine J_iinc_6 C (1) dX6_plans_241 (by decide) trivial ic_1 ?_
                    rw [nI_1]
                    refine J_aload_0 C dX6_plans_244 ?_
                    refine J_iload_4 C dX6_plans_245 ?_
                    refine J_iload_6 C dX6_plans_247 ?_
                    refine J_aload_0 C dX6_plans_249 ?_
                    refine G6_geti C (n := 4808) 8 dX6_plans_250 fX6_plans_25 iX6_plans_6 rfl (hS _ (by decide)) rfl rfl ?_
                    rw [hgl]
                    refine G_vpi C dX6_plans_253 (c_X6_crosses E hM0 m ρ g h T4 L hR4 q.1 (b + 1) ld hqa (by have := hstl; omega) hld) gX6_plans_X6_crosses rfl dm_X6_crosses rfl rfl (hS _ (by decide)) rfl rfl (Nat.le_of_ble_eq_true rfl) (rmOK_b rfl) (fun r253 hr253 => ?_)
                    subst hr253
                    refine J_top (y := oI (c q.1 (b + 1))) (by rw [hc]; rfl) ?_
                    refine J_istore_7 C dX6_plans_256 (by decide) trivial ?_
                    refine J_goto C 207 dX6_plans_258 (by decide) ?_
                    exact ih4 (b + 1) (by omega) (by omega)
                  · skip
                    obtain ⟨t, hto⟩ : ∃ t, c q.1 b = some t := by
                      cases qq : c q.1 b with
                      | none => exact absurd ((oI_neg (fun t ht => hcl q.1 b t hqa ht)).mpr qq) hc209
                      | some t => exact ⟨t, rfl⟩
                    rw [hto]
                    obtain ⟨i1, e1, he1, hte, -⟩ := hBI.full hq (hcB q.1 b t hqa hto) hto
                    have ht1 := hBI.2.2.1 i1 e1 he1
                    have hs1 := steps_le hBI i1 e1 he1
                    have hil := get_lt he1
                    subst hte
                    refine J_aload_0 C dX6_plans_212 ?_
                    refine G6_getr C (n := 62) 32 dX6_plans_213 fX6_plans_62 iX6_plans_6 rfl (hS _ (by decide)) rfl rfl ?_
                    refine J_iload_7 C dX6_plans_216 ?_
                    refine G_iald C e1.1 dX6_plans_218 rfl (hS _ (by decide)) rfl ht1 ?_
                    rw [(hX4.2.1 i1 e1 he1).2]
                    refine J_aload_0 C dX6_plans_219 ?_
                    refine G6_getr C (n := 62) 32 dX6_plans_220 fX6_plans_62 iX6_plans_6 rfl (hS _ (by decide)) rfl rfl ?_
                    refine J_iload_4 C dX6_plans_223 ?_
                    refine G_iald C q.1 dX6_plans_225 rfl (hS _ (by decide)) rfl hqa ?_
                    rw [(hX4.2.1 _ q hq).2]
                    refine J_iconst C (1) dX6_plans_226 ic_1 ?_
                    refine J_iadd C dX6_plans_227 ?_
                    rw [nI_1]
                    refine J_icmp_ne C 241 dX6_plans_228 (by decide) (fun hc228 => ?_) (fun hc228 => ?_)
                    · skip
                      have hbne : b < sts l (anc l p d) := by
                        rcases Nat.lt_or_ge b (sts l (anc l p d)) with z | z
                        · exact z
                        · exfalso
                          have hbe : b = sts l (anc l p d) := by omega
                          subst hbe
                          obtain ⟨e9, f1, f2, f3⟩ := hps.2.2
                          first
                          | (rw [f2] at hc209
                             exact absurd hc209 (nI_pos (by have := hBI.2.2.1 _ e9 f1; omega)))
                          | (rw [hto] at f2
                             have : e1.1 = e9.1 := Option.some.inj f2
                             have : i1 = anc l p d := hBI.2.1 _ _ e1 e9 he1 f1 this
                             subst this
                             rw [he1] at f1
                             cases f1
                             exact hc228 (by rw [f3]))
                          | (obtain ⟨i9, e9, k1, k2, k3, k4⟩ := hps.2.1
                             rw [hto] at k1
                             have k5 : e1.1 = e9.1 := Option.some.inj k1
                             have : i1 = i9 := hBI.2.1 _ _ e1 e9 he1 k2 k5
                             subst this
                             rcases hLd i1 e1 (Nat.zero_le _) he1 with z | z
                             · rw [z.1] at hc238
                               exact absurd hc238 (by decide)
                             · exact z.2 k4)
                      refine J_iinc_6 C (1) dX6_plans_241 (by decide) trivial ic_1 ?_
                      rw [nI_1]
                      refine J_aload_0 C dX6_plans_244 ?_
                      refine J_iload_4 C dX6_plans_245 ?_
                      refine J_iload_6 C dX6_plans_247 ?_
                      refine J_aload_0 C dX6_plans_249 ?_
                      refine G6_geti C (n := 4808) 8 dX6_plans_250 fX6_plans_25 iX6_plans_6 rfl (hS _ (by decide)) rfl rfl ?_
                      rw [hgl]
                      refine G_vpi C dX6_plans_253 (c_X6_crosses E hM0 m ρ g h T4 L hR4 q.1 (b + 1) ld hqa (by have := hstl; omega) hld) gX6_plans_X6_crosses rfl dm_X6_crosses rfl rfl (hS _ (by decide)) rfl rfl (Nat.le_of_ble_eq_true rfl) (rmOK_b rfl) (fun r253 hr253 => ?_)
                      subst hr253
                      refine J_top (y := oI (c q.1 (b + 1))) (by rw [hc]; rfl) ?_
                      refine J_istore_7 C dX6_plans_256 (by decide) trivial ?_
                      refine J_goto C 207 dX6_plans_258 (by decide) ?_
                      exact ih4 (b + 1) (by omega) (by omega)
                    · skip
                      have hst1 : e1.2.1 = q.2.1 + 1 := nI_inj (by omega) (by omega) hc228
                      refine J_aload_0 C dX6_plans_231 ?_
                      refine G6_getr C (n := 64) 35 dX6_plans_232 fX6_plans_68 iX6_plans_6 rfl (hS _ (by decide)) rfl rfl ?_
                      refine J_iload_7 C dX6_plans_235 ?_
                      refine G_zald C e1.1 dX6_plans_237 rfl (hS _ (by decide)) rfl ht1 ?_
                      
                      refine J_if_ne C 261 dX6_plans_238 (by decide) (fun hc238 => ?_) (fun hc238 => ?_)
                      · skip
                        have hbe : b = sts l (anc l p d) := by
                          rcases Nat.lt_or_ge b (sts l (anc l p d)) with z | z
                          · exfalso
                            refine hps.1 b z ⟨i1, e1, hto, he1, hst1, ?_⟩
                            rcases hLd i1 e1 (Nat.zero_le _) he1 with z | z
                            · exact z.2
                            · rw [z.1] at hc238
                              exact absurd rfl hc238
                          · omega
                        obtain ⟨e9, f1, f2, f3⟩ := hps.2.2
                        have f4 : e1.1 = e9.1 := by
                          rw [← hbe, hto] at f2
                          exact Option.some.inj f2
                        refine J_aload_0 C dX6_plans_261 ?_
                        refine G6_getr C (n := 65) 36 dX6_plans_262 fX6_plans_72 iX6_plans_6 rfl (hS _ (by decide)) rfl rfl ?_
                        refine J_iload_5 C dX6_plans_265 ?_
                        refine J_iload_6 C dX6_plans_267 ?_
                        refine G_iast C i dX6_plans_269 rfl (hS _ (by decide)) rfl (by omega) ?_
                        refine J_iload_7 C dX6_plans_270 ?_
                        refine J_istore_4 C dX6_plans_272 (by decide) trivial ?_
                        refine J_iinc_5 C (1) dX6_plans_274 (by decide) trivial ic_1 ?_
                        refine J_goto C 184 dX6_plans_277 (by decide) ?_
                        rw [nI_1, f4]
                        refine ih3 (i + 1) _ e9 _ _ (by omega) (by omega) (fun k hk hk2 => by simp [va_up, hk2]; exact hT4 k hk hk2) (by simp [va_up]; exact hLd) (by rw [show n - (i + 1) = d by omega]; exact f1) (fun j hj => ?_)
                        simp only [va_up, if_true, upd]
                        by_cases z : j = i
                        · rw [if_pos z, z, hbe, show n - 1 - i = d by omega]
                        · rw [if_neg z]
                          exact hpl j (by omega)
                      · skip
                        have hbne : b < sts l (anc l p d) := by
                          rcases Nat.lt_or_ge b (sts l (anc l p d)) with z | z
                          · exact z
                          · exfalso
                            have hbe : b = sts l (anc l p d) := by omega
                            subst hbe
                            obtain ⟨e9, f1, f2, f3⟩ := hps.2.2
                            first
                            | (rw [f2] at hc209
                               exact absurd hc209 (nI_pos (by have := hBI.2.2.1 _ e9 f1; omega)))
                            | (rw [hto] at f2
                               have : e1.1 = e9.1 := Option.some.inj f2
                               have : i1 = anc l p d := hBI.2.1 _ _ e1 e9 he1 f1 this
                               subst this
                               rw [he1] at f1
                               cases f1
                               exact hc228 (by rw [f3]))
                            | (obtain ⟨i9, e9, k1, k2, k3, k4⟩ := hps.2.1
                               rw [hto] at k1
                               have k5 : e1.1 = e9.1 := Option.some.inj k1
                               have : i1 = i9 := hBI.2.1 _ _ e1 e9 he1 k2 k5
                               subst this
                               rcases hLd i1 e1 (Nat.zero_le _) he1 with z | z
                               · rw [z.1] at hc238
                                 exact absurd hc238 (by decide)
                               · exact z.2 k4)
                        refine J_iinc_6 C (1) dX6_plans_241 (by decide) trivial ic_1 ?_
                        rw [nI_1]
                        refine J_aload_0 C dX6_plans_244 ?_
                        refine J_iload_4 C dX6_plans_245 ?_
                        refine J_iload_6 C dX6_plans_247 ?_
                        refine J_aload_0 C dX6_plans_249 ?_
                        refine G6_geti C (n := 4808) 8 dX6_plans_250 fX6_plans_25 iX6_plans_6 rfl (hS _ (by decide)) rfl rfl ?_
                        rw [hgl]
                        refine G_vpi C dX6_plans_253 (c_X6_crosses E hM0 m ρ g h T4 L hR4 q.1 (b + 1) ld hqa (by have := hstl; omega) hld) gX6_plans_X6_crosses rfl dm_X6_crosses rfl rfl (hS _ (by decide)) rfl rfl (Nat.le_of_ble_eq_true rfl) (rmOK_b rfl) (fun r253 hr253 => ?_)
                        subst hr253
                        refine J_top (y := oI (c q.1 (b + 1))) (by rw [hc]; rfl) ?_
                        refine J_istore_7 C dX6_plans_256 (by decide) trivial ?_
                        refine J_goto C 207 dX6_plans_258 (by decide) ?_
                        exact ih4 (b + 1) (by omega) (by omega)
              exact loop4 (sts l (anc l p d) + 1) 0 (Nat.zero_le _) (by omega)
        have hk0 : k = 0 := by
          cases k with
          | zero => rfl
          | succ k' =>
            rw [pk_m1] at hc10
            exact absurd hc10 (nI_pos (by omega))
        subst hk0
        obtain ⟨q, hq, hqs⟩ := anc_ok hBI hp n (by rw [hG.1]; exact Nat.le_refl n)
        have hz : anc l p n = 0 := by
          rcases Nat.eq_zero_or_pos (anc l p n) with z | z
          · exact z
          · obtain ⟨-, -, -, p', -, -, a6⟩ := hBI.2.2.2.1 _ q hq z
            have := hG.1
            omega
        have hq0 : q.1 = a := by
          rw [hz, hBI.1] at hq
          cases hq
          rfl
        have hx := loop3 (n + 1) 0 T2 q x6 x7 (Nat.zero_le _) (by omega) hT2 hLd (by rw [Nat.sub_zero]; exact hq) (fun j hj => absurd hj (Nat.not_lt_zero _))
        rw [hq0] at hx
        exact hx
      · skip
        obtain ⟨k, rfl⟩ : ∃ k', k = k' + 1 := by
          cases k with
          | zero => exact absurd (by decide) hc10
          | succ k' => exact ⟨k', rfl⟩
        rw [pk_m1]
        obtain ⟨hR2, hX2⟩ := hRf T2 hT2
        obtain ⟨e, he⟩ : ∃ e, l[k]? = some e := ⟨_, List.getElem?_eq_getElem (by omega)⟩
        have hea := hBI.2.2.1 k e he
        have hse := steps_le hBI k e he
        refine J_aload_0 C dX6_plans_13 ?_
        refine G6_getr C (n := 63) 33 dX6_plans_14 fX6_plans_65 iX6_plans_6 rfl (hS _ (by decide)) rfl rfl ?_
        refine J_iload_4 C dX6_plans_17 ?_
        refine G_iald C k dX6_plans_19 rfl (hS _ (by decide)) rfl (by omega) ?_
        rw [(hX2.2.1 k e he).1]
        refine J_istore_5 C dX6_plans_20 (by decide) trivial ?_
        refine J_aload_0 C dX6_plans_22 ?_
        refine G6_getr C (n := 64) 35 dX6_plans_23 fX6_plans_68 iX6_plans_6 rfl (hS _ (by decide)) rfl rfl ?_
        refine J_iload_5 C dX6_plans_26 ?_
        have hcut : ∀ (x : Int32), (x = 1 ∧ G e) ∨ (x = 0 ∧ ¬ G e) → J E Y (eN E) 0 0 (wS E g h T2 L) 67 [some (.ref (eA E 48)), some (.int (nI n)), some (.int (nI rn)), some (.int (if rt = true then 1 else 0)), some (.int (nI k)), some (.int (nI e.1)), x6, x7] [.int x, .int (nI e.1), .ref (eA E 64)] := by
          intro x hx
          refine G_zast C e.1 dX6_plans_67 rfl (hS _ (by decide)) rfl hea (by rcases hx with h | h <;> (rw [h.1]; rfl)) ?_
          refine J_iconst C (0) dX6_plans_68 ic_0 ?_
          refine J_istore_6 C dX6_plans_69 (by decide) trivial ?_
          have loop2 : ∀ (n2 : Nat) (b : Nat) (T3 : Nat → Nat → Int32) (x7 : Option Value), b ≤ 2 ^ m → 2 ^ m < n2 + b → (∀ i, i ≠ 64 → i ≠ 65 → T3 i = T i) → LdOK c l G n (k + 1) (T3 64) → LdIn c l G n k b e (T3 64) → J E Y (eN E) 0 0 (wS E g h T3 L) 71 [some (.ref (eA E 48)), some (.int (nI n)), some (.int (nI rn)), some (.int (if rt = true then 1 else 0)), some (.int (nI k)), some (.int (nI e.1)), some (.int (nI b)), x7] [] := by
            intro n2
            induction n2 with
            | zero =>
              intro b T3 x7 hb1 hb2 hT3 hLo hLi
              omega
            | succ n2 ih2 =>
              intro b T3 x7 hb1 hb2 hT3 hLo hLi
              obtain ⟨hR3, hX3⟩ := hRf T3 hT3
              refine J_iload_6 C dX6_plans_71 ?_
              refine J_iconst C (1) dX6_plans_73 ic_1 ?_
              refine J_aload_0 C dX6_plans_74 ?_
              refine G6_geti C (n := 4802) 2 dX6_plans_75 fX6_plans_82 iX6_plans_6 rfl (hS _ (by decide)) rfl rfl ?_
              rw [hR3.2.1]
              refine J_ishl C dX6_plans_78 ?_
              rw [nI_sh1 m (by omega)]
              refine J_icmp_ge C 169 dX6_plans_79 (by decide) (fun hc79 => ?_) (fun hc79 => ?_)
              · skip
                refine J_iinc_4 C (-1) dX6_plans_169 (by decide) trivial ic_m1 ?_
                refine J_goto C 8 dX6_plans_172 (by decide) ?_
                first
                | exact ih k T3 _ _ _ (by omega) (by omega) hT3 (hLo.down he (hLi.end he hea hcB (fun _ => ge_nI (by omega) hc79)))
                | exact ih k T3 _ _ _ (by omega) (by omega) hT3 (hLo.down he (hLi.end he hea hcB (fun q => absurd (ge_nI (by omega) hc90) (by omega))))
                | (refine ih k T3 _ _ _ (by omega) (by omega) hT3 (hLo.down he (Or.inl ?_))
                   rcases hLi with z | z
                   · exact z
                   · exact absurd z.1 hc100)
              · skip
                have hbl : b < 2 ^ m := lt_nI (by omega) hc79
                refine J_aload_0 C dX6_plans_82 ?_
                refine G6_getr C (n := 62) 32 dX6_plans_83 fX6_plans_62 iX6_plans_6 rfl (hS _ (by decide)) rfl rfl ?_
                refine J_iload_5 C dX6_plans_86 ?_
                
                refine G_iald C e.1 dX6_plans_88 rfl (hS _ (by decide)) rfl hea ?_
                refine J_iload_1 C dX6_plans_89 ?_
                rw [(hX3.2.1 k e he).2]
                refine J_icmp_ge C 169 dX6_plans_90 (by decide) (fun hc90 => ?_) (fun hc90 => ?_)
                · skip
                  refine J_iinc_4 C (-1) dX6_plans_169 (by decide) trivial ic_m1 ?_
                  refine J_goto C 8 dX6_plans_172 (by decide) ?_
                  first
                  | exact ih k T3 _ _ _ (by omega) (by omega) hT3 (hLo.down he (hLi.end he hea hcB (fun _ => ge_nI (by omega) hc79)))
                  | exact ih k T3 _ _ _ (by omega) (by omega) hT3 (hLo.down he (hLi.end he hea hcB (fun q => absurd (ge_nI (by omega) hc90) (by omega))))
                  | (refine ih k T3 _ _ _ (by omega) (by omega) hT3 (hLo.down he (Or.inl ?_))
                     rcases hLi with z | z
                     · exact z
                     · exact absurd z.1 hc100)
                · skip
                  have hsn : e.2.1 < n := lt_nI (by omega) hc90
                  refine J_aload_0 C dX6_plans_93 ?_
                  refine G6_getr C (n := 64) 35 dX6_plans_94 fX6_plans_68 iX6_plans_6 rfl (hS _ (by decide)) rfl rfl ?_
                  refine J_iload_5 C dX6_plans_97 ?_
                  refine G_zald C e.1 dX6_plans_99 rfl (hS _ (by decide)) rfl hea ?_
                  refine J_if_ne C 169 dX6_plans_100 (by decide) (fun hc100 => ?_) (fun hc100 => ?_)
                  · skip
                    refine J_iinc_4 C (-1) dX6_plans_169 (by decide) trivial ic_m1 ?_
                    refine J_goto C 8 dX6_plans_172 (by decide) ?_
                    first
                    | exact ih k T3 _ _ _ (by omega) (by omega) hT3 (hLo.down he (hLi.end he hea hcB (fun _ => ge_nI (by omega) hc79)))
                    | exact ih k T3 _ _ _ (by omega) (by omega) hT3 (hLo.down he (hLi.end he hea hcB (fun q => absurd (ge_nI (by omega) hc90) (by omega))))
                    | (refine ih k T3 _ _ _ (by omega) (by omega) hT3 (hLo.down he (Or.inl ?_))
                       rcases hLi with z | z
                       · exact z
                       · exact absurd z.1 hc100)
                  · skip
                    
                    refine J_aload_0 C dX6_plans_103 ?_
                    refine J_iload_5 C dX6_plans_104 ?_
                    refine J_iload_6 C dX6_plans_106 ?_
                    refine J_aload_0 C dX6_plans_108 ?_
                    refine G6_geti C (n := 4808) 8 dX6_plans_109 fX6_plans_25 iX6_plans_6 rfl (hS _ (by decide)) rfl rfl ?_
                    rw [hgl]
                    refine G_vpi C dX6_plans_112 (c_X6_crosses E hM0 m ρ g h T3 L hR3 e.1 b ld hea (by omega) hld) gX6_plans_X6_crosses rfl dm_X6_crosses rfl rfl (hS _ (by decide)) rfl rfl (Nat.le_of_ble_eq_true rfl) (rmOK_b rfl) (fun r112 hr112 => ?_)
                    subst hr112
                    refine J_top (y := oI (c e.1 b)) (by rw [hc]; rfl) ?_
                    refine J_istore_7 C dX6_plans_115 (by decide) trivial ?_
                    refine J_aload_0 C dX6_plans_117 ?_
                    refine G6_getr C (n := 64) 35 dX6_plans_118 fX6_plans_68 iX6_plans_6 rfl (hS _ (by decide)) rfl rfl ?_
                    refine J_iload_5 C dX6_plans_121 ?_
                    refine J_iload_7 C dX6_plans_123 ?_
                    refine J_if_lt C 161 dX6_plans_125 (by decide) (fun hc125 => ?_) (fun hc125 => ?_)
                    · skip
                      refine J_iconst C (0) dX6_plans_161 ic_0 ?_
                      
                      refine G_zast C e.1 dX6_plans_162 rfl (hS _ (by decide)) rfl hea rfl ?_
                      refine J_iinc_6 C (1) dX6_plans_163 (by decide) trivial ic_1 ?_
                      refine J_goto C 71 dX6_plans_166 (by decide) ?_
                      rw [nI_1]
                      refine ih2 (b + 1) _ _ (by omega) (by omega) (fun i hi hi2 => by simp [va_up, hi]; exact hT3 i hi hi2) ?_ ?_
                      · simp only [va_up, if_true]
                        exact hLo.put hBI he _
                      · simp only [va_up, if_true]
                        have hold : e.2.1 < n → ∀ b', b' < b → ¬ LBy c l G n e b' := by
                          rcases hLi with z | z
                          · exact absurd z.1 (by intro q9; rw [q9] at hc100; exact absurd hc100 (by decide))
                          · exact z.2.2
                        first
                        | (refine Or.inl ⟨by simp [upd], (lead_lt he hsn).mpr ⟨b, i1, e1, hto, he1, hst1, ?_⟩⟩
                           rcases hLo i1 e1 hki he1 with z | z
                           · exact z.2
                           · exact absurd z.1 hc154)
                        | (refine Or.inr ⟨by simp [upd], fun q => absurd hsn (by omega), fun q b' hb' => ?_⟩
                           by_cases hbb : b' = b
                           · subst hbb
                             rintro ⟨i9, e9, k1, k2, k3, k4⟩
                             first
                             | (rw [k1] at hc125
                                exact absurd hc125 (nI_pos (by have := hBI.2.2.1 i9 e9 k2; omega)))
                             | (rw [hto] at k1
                                have k5 : e1.1 = e9.1 := Option.some.inj k1
                                have : i1 = i9 := hBI.2.1 _ _ e1 e9 he1 k2 k5
                                subst this
                                rw [he1] at k2
                                cases k2
                                exact hc144 (by rw [k3]))
                             | (rw [hto] at k1
                                have k5 : e1.1 = e9.1 := Option.some.inj k1
                                have : i1 = i9 := hBI.2.1 _ _ e1 e9 he1 k2 k5
                                subst this
                                rcases hLo i1 e1 hki he1 with z | z
                                · rw [z.1] at hc154
                                  exact absurd hc154 (by decide)
                                · exact z.2 k4)
                           · exact hold q b' (by omega))
                    · skip
                      obtain ⟨t, hto⟩ : ∃ t, c e.1 b = some t := by
                        cases q : c e.1 b with
                        | none => exact absurd ((oI_neg (fun t ht => hcl e.1 b t hea ht)).mpr q) hc125
                        | some t => exact ⟨t, rfl⟩
                      rw [hto]
                      obtain ⟨i1, e1, he1, hte, -⟩ := hBI.full he hbl hto
                      have ht1 := hBI.2.2.1 i1 e1 he1
                      have hs1 := steps_le hBI i1 e1 he1
                      have hil := get_lt he1
                      subst hte
                      refine J_aload_0 C dX6_plans_128 ?_
                      refine G6_getr C (n := 62) 32 dX6_plans_129 fX6_plans_62 iX6_plans_6 rfl (hS _ (by decide)) rfl rfl ?_
                      refine J_iload_7 C dX6_plans_132 ?_
                      refine G_iald C e1.1 dX6_plans_134 rfl (hS _ (by decide)) rfl ht1 ?_
                      rw [(hX3.2.1 i1 e1 he1).2]
                      refine J_aload_0 C dX6_plans_135 ?_
                      refine G6_getr C (n := 62) 32 dX6_plans_136 fX6_plans_62 iX6_plans_6 rfl (hS _ (by decide)) rfl rfl ?_
                      refine J_iload_5 C dX6_plans_139 ?_
                      refine G_iald C e.1 dX6_plans_141 rfl (hS _ (by decide)) rfl hea ?_
                      rw [(hX3.2.1 k e he).2]
                      refine J_iconst C (1) dX6_plans_142 ic_1 ?_
                      refine J_iadd C dX6_plans_143 ?_
                      rw [nI_1]
                      refine J_icmp_ne C 161 dX6_plans_144 (by decide) (fun hc144 => ?_) (fun hc144 => ?_)
                      · skip
                        refine J_iconst C (0) dX6_plans_161 ic_0 ?_
                        
                        refine G_zast C e.1 dX6_plans_162 rfl (hS _ (by decide)) rfl hea rfl ?_
                        refine J_iinc_6 C (1) dX6_plans_163 (by decide) trivial ic_1 ?_
                        refine J_goto C 71 dX6_plans_166 (by decide) ?_
                        rw [nI_1]
                        refine ih2 (b + 1) _ _ (by omega) (by omega) (fun i hi hi2 => by simp [va_up, hi]; exact hT3 i hi hi2) ?_ ?_
                        · simp only [va_up, if_true]
                          exact hLo.put hBI he _
                        · simp only [va_up, if_true]
                          have hold : e.2.1 < n → ∀ b', b' < b → ¬ LBy c l G n e b' := by
                            rcases hLi with z | z
                            · exact absurd z.1 (by intro q9; rw [q9] at hc100; exact absurd hc100 (by decide))
                            · exact z.2.2
                          first
                          | (refine Or.inl ⟨by simp [upd], (lead_lt he hsn).mpr ⟨b, i1, e1, hto, he1, hst1, ?_⟩⟩
                             rcases hLo i1 e1 hki he1 with z | z
                             · exact z.2
                             · exact absurd z.1 hc154)
                          | (refine Or.inr ⟨by simp [upd], fun q => absurd hsn (by omega), fun q b' hb' => ?_⟩
                             by_cases hbb : b' = b
                             · subst hbb
                               rintro ⟨i9, e9, k1, k2, k3, k4⟩
                               first
                               | (rw [k1] at hc125
                                  exact absurd hc125 (nI_pos (by have := hBI.2.2.1 i9 e9 k2; omega)))
                               | (rw [hto] at k1
                                  have k5 : e1.1 = e9.1 := Option.some.inj k1
                                  have : i1 = i9 := hBI.2.1 _ _ e1 e9 he1 k2 k5
                                  subst this
                                  rw [he1] at k2
                                  cases k2
                                  exact hc144 (by rw [k3]))
                               | (rw [hto] at k1
                                  have k5 : e1.1 = e9.1 := Option.some.inj k1
                                  have : i1 = i9 := hBI.2.1 _ _ e1 e9 he1 k2 k5
                                  subst this
                                  rcases hLo i1 e1 hki he1 with z | z
                                  · rw [z.1] at hc154
                                    exact absurd hc154 (by decide)
                                  · exact z.2 k4)
                             · exact hold q b' (by omega))
                      · skip
                        have hst1 : e1.2.1 = e.2.1 + 1 := nI_inj (by omega) (by omega) hc144
                        have hki : k + 1 ≤ i1 := by
                          rcases Nat.lt_or_ge k i1 with q | q
                          · exact q
                          · have := steps_mono hBI k i1 e1 e q he1 he
                            omega
                        refine J_aload_0 C dX6_plans_147 ?_
                        refine G6_getr C (n := 64) 35 dX6_plans_148 fX6_plans_68 iX6_plans_6 rfl (hS _ (by decide)) rfl rfl ?_
                        refine J_iload_7 C dX6_plans_151 ?_
                        refine G_zald C e1.1 dX6_plans_153 rfl (hS _ (by decide)) rfl ht1 ?_
                        refine J_if_eq C 161 dX6_plans_154 (by decide) (fun hc154 => ?_) (fun hc154 => ?_)
                        · skip
                          refine J_iconst C (0) dX6_plans_161 ic_0 ?_
                          
                          refine G_zast C e.1 dX6_plans_162 rfl (hS _ (by decide)) rfl hea rfl ?_
                          refine J_iinc_6 C (1) dX6_plans_163 (by decide) trivial ic_1 ?_
                          refine J_goto C 71 dX6_plans_166 (by decide) ?_
                          rw [nI_1]
                          refine ih2 (b + 1) _ _ (by omega) (by omega) (fun i hi hi2 => by simp [va_up, hi]; exact hT3 i hi hi2) ?_ ?_
                          · simp only [va_up, if_true]
                            exact hLo.put hBI he _
                          · simp only [va_up, if_true]
                            have hold : e.2.1 < n → ∀ b', b' < b → ¬ LBy c l G n e b' := by
                              rcases hLi with z | z
                              · exact absurd z.1 (by intro q9; rw [q9] at hc100; exact absurd hc100 (by decide))
                              · exact z.2.2
                            first
                            | (refine Or.inl ⟨by simp [upd], (lead_lt he hsn).mpr ⟨b, i1, e1, hto, he1, hst1, ?_⟩⟩
                               rcases hLo i1 e1 hki he1 with z | z
                               · exact z.2
                               · exact absurd z.1 hc154)
                            | (refine Or.inr ⟨by simp [upd], fun q => absurd hsn (by omega), fun q b' hb' => ?_⟩
                               by_cases hbb : b' = b
                               · subst hbb
                                 rintro ⟨i9, e9, k1, k2, k3, k4⟩
                                 first
                                 | (rw [k1] at hc125
                                    exact absurd hc125 (nI_pos (by have := hBI.2.2.1 i9 e9 k2; omega)))
                                 | (rw [hto] at k1
                                    have k5 : e1.1 = e9.1 := Option.some.inj k1
                                    have : i1 = i9 := hBI.2.1 _ _ e1 e9 he1 k2 k5
                                    subst this
                                    rw [he1] at k2
                                    cases k2
                                    exact hc144 (by rw [k3]))
                                 | (rw [hto] at k1
                                    have k5 : e1.1 = e9.1 := Option.some.inj k1
                                    have : i1 = i9 := hBI.2.1 _ _ e1 e9 he1 k2 k5
                                    subst this
                                    rcases hLo i1 e1 hki he1 with z | z
                                    · rw [z.1] at hc154
                                      exact absurd hc154 (by decide)
                                    · exact z.2 k4)
                               · exact hold q b' (by omega))
                        · skip
                          refine J_iconst C (1) dX6_plans_157 ic_1 ?_
                          refine J_goto C 162 dX6_plans_158 (by decide) ?_
                          
                          refine G_zast C e.1 dX6_plans_162 rfl (hS _ (by decide)) rfl hea rfl ?_
                          refine J_iinc_6 C (1) dX6_plans_163 (by decide) trivial ic_1 ?_
                          refine J_goto C 71 dX6_plans_166 (by decide) ?_
                          rw [nI_1]
                          refine ih2 (b + 1) _ _ (by omega) (by omega) (fun i hi hi2 => by simp [va_up, hi]; exact hT3 i hi hi2) ?_ ?_
                          · simp only [va_up, if_true]
                            exact hLo.put hBI he _
                          · simp only [va_up, if_true]
                            have hold : e.2.1 < n → ∀ b', b' < b → ¬ LBy c l G n e b' := by
                              rcases hLi with z | z
                              · exact absurd z.1 (by intro q9; rw [q9] at hc100; exact absurd hc100 (by decide))
                              · exact z.2.2
                            first
                            | (refine Or.inl ⟨by simp [upd], (lead_lt he hsn).mpr ⟨b, i1, e1, hto, he1, hst1, ?_⟩⟩
                               rcases hLo i1 e1 hki he1 with z | z
                               · exact z.2
                               · exact absurd z.1 hc154)
                            | (refine Or.inr ⟨by simp [upd], fun q => absurd hsn (by omega), fun q b' hb' => ?_⟩
                               by_cases hbb : b' = b
                               · subst hbb
                                 rintro ⟨i9, e9, k1, k2, k3, k4⟩
                                 first
                                 | (rw [k1] at hc125
                                    exact absurd hc125 (nI_pos (by have := hBI.2.2.1 i9 e9 k2; omega)))
                                 | (rw [hto] at k1
                                    have k5 : e1.1 = e9.1 := Option.some.inj k1
                                    have : i1 = i9 := hBI.2.1 _ _ e1 e9 he1 k2 k5
                                    subst this
                                    rw [he1] at k2
                                    cases k2
                                    exact hc144 (by rw [k3]))
                                 | (rw [hto] at k1
                                    have k5 : e1.1 = e9.1 := Option.some.inj k1
                                    have : i1 = i9 := hBI.2.1 _ _ e1 e9 he1 k2 k5
                                    subst this
                                    rcases hLo i1 e1 hki he1 with z | z
                                    · rw [z.1] at hc154
                                      exact absurd hc154 (by decide)
                                    · exact z.2 k4)
                               · exact hold q b' (by omega))
          refine loop2 (2 ^ m + 1) 0 _ _ (Nat.zero_le _) (by omega) (fun i hi hi2 => by simp [va_up, hi]; exact hT2 i hi hi2) ?_ ?_
          · simp only [va_up, if_true]
            exact hLd.put hBI he x
          · simp only [va_up, if_true]
            rcases hx with z | z
            · refine Or.inl ⟨by simp [upd, z.1], (lead_eq he ?_).mpr z.2⟩
              have := z.2
              rw [hGe] at this
              exact this.1
            · exact Or.inr ⟨by simp [upd, z.1], fun _ => z.2, fun _ b' hb' => absurd hb' (Nat.not_lt_zero _)⟩
        refine J_aload_0 C dX6_plans_28 ?_
        refine G6_getr C (n := 62) 32 dX6_plans_29 fX6_plans_62 iX6_plans_6 rfl (hS _ (by decide)) rfl rfl ?_
        refine J_iload_5 C dX6_plans_32 ?_
        refine G_iald C e.1 dX6_plans_34 rfl (hS _ (by decide)) rfl hea ?_
        rw [(hX2.2.1 k e he).2]
        refine J_iload_1 C dX6_plans_35 ?_
        refine J_icmp_ne C 66 dX6_plans_36 (by decide) (fun hc36 => ?_) (fun hc36 => ?_)
        · skip
          have hx : ¬ G e := by
            rw [hGe]
            rintro ⟨q1, q2, q3⟩
            first
            | exact hc36 (by rw [q1])
            | exact nI_nlt q2 (by omega) hc46
            | (refine hc59 ?_
               by_cases hrt : rt = true
               · rw [q3 hrt]; rfl
               · rw [if_neg hrt] at hc50
                 exact absurd rfl hc50)
          refine J_iconst C (0) dX6_plans_66 ic_0 ?_
          first
          | exact hcut 1 (Or.inl ⟨rfl, hx⟩)
          | exact hcut 0 (Or.inr ⟨rfl, hx⟩)
        · skip
          refine J_aload_0 C dX6_plans_39 ?_
          refine J_iload_5 C dX6_plans_40 ?_
          refine G_vpi C dX6_plans_42 (c_X6_rentOf E hM0 m ρ g h T2 L hR2 e.1 hea) gX6_plans_X6_rentOf rfl dm_X6_rentOf rfl rfl (hS _ (by decide)) rfl rfl (Nat.le_of_ble_eq_true rfl) (rmOK_b rfl) (fun r42 hr42 => ?_)
          subst hr42
          refine J_iload_2 C dX6_plans_45 ?_
          refine J_icmp_gt C 66 dX6_plans_46 (by decide) (fun hc46 => ?_) (fun hc46 => ?_)
          · skip
            have hx : ¬ G e := by
              rw [hGe]
              rintro ⟨q1, q2, q3⟩
              first
              | exact hc36 (by rw [q1])
              | exact nI_nlt q2 (by omega) hc46
              | (refine hc59 ?_
                 by_cases hrt : rt = true
                 · rw [q3 hrt]; rfl
                 · rw [if_neg hrt] at hc50
                   exact absurd rfl hc50)
            refine J_iconst C (0) dX6_plans_66 ic_0 ?_
            first
            | exact hcut 1 (Or.inl ⟨rfl, hx⟩)
            | exact hcut 0 (Or.inr ⟨rfl, hx⟩)
          · skip
            refine J_iload_3 C dX6_plans_49 ?_
            refine J_if_eq C 62 dX6_plans_50 (by decide) (fun hc50 => ?_) (fun hc50 => ?_)
            · skip
              have hx : G e := by
                rw [hGe]
                refine ⟨nI_inj (by omega) (by omega) hc36, ?_, ?_⟩
                · have hre : rtE ρ m e ≤ 7 * 9 := Nat.le_trans (wN_le (fun t ht => (hR.2.2.2 t ht).1)) (Nat.mul_le_mul_right 9 hm)
                  rcases Nat.lt_or_ge rn (rtE ρ m e) with q | q
                  · exact absurd (nI_lt q (by omega)) hc46
                  · exact q
                · intro hrt
                  first
                  | (rw [if_pos hrt] at hc50
                     exact absurd hc50 (by decide))
                  | exact (nI_z (by have := wrN_lt (wa := ρ 0) (a := e.1) (m := m); omega)).mp hc59
              refine J_iconst C (1) dX6_plans_62 ic_1 ?_
              refine J_goto C 67 dX6_plans_63 (by decide) ?_
              first
              | exact hcut 1 (Or.inl ⟨rfl, hx⟩)
              | exact hcut 0 (Or.inr ⟨rfl, hx⟩)
            · skip
              refine J_aload_0 C dX6_plans_53 ?_
              refine J_iload_5 C dX6_plans_54 ?_
              refine G_vpi C dX6_plans_56 (c_X6_wrongOf E hM0 m ρ g h T2 L hR2 e.1 hea) gX6_plans_X6_wrongOf rfl dm_X6_wrongOf rfl rfl (hS _ (by decide)) rfl rfl (Nat.le_of_ble_eq_true rfl) (rmOK_b rfl) (fun r56 hr56 => ?_)
              subst hr56
              refine J_if_ne C 66 dX6_plans_59 (by decide) (fun hc59 => ?_) (fun hc59 => ?_)
              · skip
                have hx : ¬ G e := by
                  rw [hGe]
                  rintro ⟨q1, q2, q3⟩
                  first
                  | exact hc36 (by rw [q1])
                  | exact nI_nlt q2 (by omega) hc46
                  | (refine hc59 ?_
                     by_cases hrt : rt = true
                     · rw [q3 hrt]; rfl
                     · rw [if_neg hrt] at hc50
                       exact absurd rfl hc50)
                refine J_iconst C (0) dX6_plans_66 ic_0 ?_
                first
                | exact hcut 1 (Or.inl ⟨rfl, hx⟩)
                | exact hcut 0 (Or.inr ⟨rfl, hx⟩)
              · skip
                have hx : G e := by
                  rw [hGe]
                  refine ⟨nI_inj (by omega) (by omega) hc36, ?_, ?_⟩
                  · have hre : rtE ρ m e ≤ 7 * 9 := Nat.le_trans (wN_le (fun t ht => (hR.2.2.2 t ht).1)) (Nat.mul_le_mul_right 9 hm)
                    rcases Nat.lt_or_ge rn (rtE ρ m e) with q | q
                    · exact absurd (nI_lt q (by omega)) hc46
                    · exact q
                  · intro hrt
                    first
                    | (rw [if_pos hrt] at hc50
                       exact absurd hc50 (by decide))
                    | exact (nI_z (by have := wrN_lt (wa := ρ 0) (a := e.1) (m := m); omega)).mp hc59
                refine J_iconst C (1) dX6_plans_62 ic_1 ?_
                refine J_goto C 67 dX6_plans_63 (by decide) ?_
                first
                | exact hcut 1 (Or.inl ⟨rfl, hx⟩)
                | exact hcut 0 (Or.inr ⟨rfl, hx⟩)
  exact loop (l.length + 1) l.length T _ _ _ (by omega) (by omega) (fun _ _ _ => rfl) (fun i e hi he => absurd (get_lt he) (by omega))
