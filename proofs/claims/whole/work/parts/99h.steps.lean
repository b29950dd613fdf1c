def Sb (g : Nat → Int32) (T : Nat → Nat → Int32) : Prop := ∃ m ρ pr ld fr bg n b μ sn im, SX m ρ pr ld fr bg n b μ sn im g T ∧ SM m ρ pr ld fr bg n b μ sn im g T ∧ AOK m ρ ld bg n b μ sn im
theorem Sa.of {g : Nat → Int32} {h : Nat → Int64} {T : Nat → Nat → Int32} (hs : Sb g T) (hh : h 10 = h 4822) : Sa g h T := by
  obtain ⟨m, ρ, pr, ld, fr, bg, n, b, μ, sn, im, a, c, d⟩ := hs
  exact ⟨m, ρ, pr, ld, fr, bg, n, b, μ, sn, im, a, c, d, hh⟩
theorem AOK.mo {m : Nat} {ρ : Nat → Nat → Nat} {ld bg n : Nat} {b : Nat → Nat} {μ : MO} {sn : List (Nat × Nat × Nat)} {im : Nat → Option MO} {μ' : MO} (h : AOK m ρ ld bg n b μ sn im) (hm : MoOK μ') : AOK m ρ ld bg n b μ' sn im := ⟨h.1, h.2.1, h.2.2.1, hm, h.2.2.2.2⟩
theorem FrMo.rf {g : Nat → Int32} {T : Nat → Nat → Int32} : FrMo g g T T := ⟨fun _ _ => rfl, fun _ _ _ => rfl⟩
/-- a call that changes the moment on both sides alike -/
theorem st_mo {m : Nat} {ρ : Nat → Nat → Nat} {pr ld fr bg n : Nat} {b : Nat → Nat} {μ : MO} {sn : List (Nat × Nat × Nat)} {im : Nat → Option MO} {g g1 g2 : Nat → Int32} {T T1 T2 : Nat → Nat → Int32} {μ' : MO} (hX : SX m ρ pr ld fr bg n b μ sn im g T) (hM : SM m ρ pr ld fr bg n b μ sn im g T) (hO : AOK m ρ ld bg n b μ sn im) (hk : MoOK μ') (h1 : MomX g1 T1 20 μ') (f1 : FrMo g g1 T T1) (h2 : MoM g2 T2 μ') (f2 : FrMm g1 g2 T1 T2) : Sb g2 T2 := ⟨m, ρ, pr, ld, fr, bg, n, b, μ', sn, im, (hX.mo h1 f1).ofMm f2, (hM.ofMo f1).mo h2 f2, hO.mo hk⟩
theorem st_pl {m : Nat} {ρ : Nat → Nat → Nat} {pr ld fr bg n : Nat} {b : Nat → Nat} {μ : MO} {sn : List (Nat × Nat × Nat)} {im : Nat → Option MO} {g g1 g2 : Nat → Int32} {T T1 T2 : Nat → Nat → Int32} (hX : SX m ρ pr ld fr bg n b μ sn im g T) (hM : SM m ρ pr ld fr bg n b μ sn im g T) (hO : AOK m ρ ld bg n b μ sn im) (f1 : FrX g g1 T T1) (f2 : FrP g1 g2 T1 T2) : Sb g2 T2 := ⟨m, ρ, pr, ld, fr, bg, n, b, μ, sn, im, (hX.pl f1).ofPl f2, (hM.ofPl f1).pl f2, hO⟩
theorem TyR.fr {v : Int64} {x r : Int32} {sz cg ct : Nat} {g g2 : Nat → Int32} {T T2 : Nat → Nat → Int32} (h : TyR v x sz cg ct r g g2 T T2) : (∀ k, k ≠ cg → g2 k = g k) ∧ ∀ c, c ≠ ct → T2 c = T c := by
  rcases h with ⟨_, _, rfl, rfl⟩ | ⟨j, _, _, _, ⟨_, _, rfl, rfl⟩ | ⟨_, _, rfl, rfl⟩⟩
  · exact ⟨fun _ _ => rfl, fun _ _ => rfl⟩
  · exact ⟨fun _ _ => rfl, fun _ _ => rfl⟩
  · exact ⟨fun k hk => by simp [upd, hk], fun c hc => tU_ne hc⟩
theorem tyD_at {f : Nat → Int32} {n j : Nat} {v : Int64} {b : Nat → Nat} (hf : ∀ i, i < n → f i = nI (b i)) : ∀ i, i < n + j → tyD f n j j v i = nI (if i < n then b i else byN v (j - 1 - (i - n))) := by
  intro i hi
  unfold tyD
  by_cases h : i < n
  · rw [if_neg (by omega), if_pos h]; exact hf i h
  · rw [if_pos (by omega), if_neg h]
theorem st_ty {m : Nat} {ρ : Nat → Nat → Nat} {pr ld fr bg n : Nat} {b : Nat → Nat} {μ : MO} {sn : List (Nat × Nat × Nat)} {im : Nat → Option MO} {g g1 g2 : Nat → Int32} {T T1 T2 : Nat → Nat → Int32} {v : Int64} {x r1 r2 : Int32} (hX : SX m ρ pr ld fr bg n b μ sn im g T) (hM : SM m ρ pr ld fr bg n b μ sn im g T) (hO : AOK m ρ ld bg n b μ sn im) (h1 : TyR v x n 1 1 r1 g g1 T T1) (h2 : TyR v x n 4801 49 r2 g1 g2 T1 T2) : r1 = r2 ∧ Sb g2 T2 := by
  have f1 := h1.fr
  have f2 := h2.fr
  have hM1 := hM.keep (g2 := g1) (T2 := T1) (fun k hk => f1.1 k (by omega)) (fun c hc => f1.2 c (by omega))
  rcases h1 with ⟨a1, a2, rfl, rfl⟩ | ⟨j, rfl, b1, b2, c1⟩
  · rcases h2 with ⟨a1', a2', rfl, rfl⟩ | ⟨j, rfl, b1, b2, c1⟩
    · exact ⟨by rw [a2, a2'], _, _, _, _, _, _, _, _, _, _, _, hX, hM, hO⟩
    · exfalso
      rcases a1 with a1 | a1
      · exact absurd a1 (Int32.not_lt.mpr (nI_le (a := 1) b1 (by omega)))
      · exact absurd a1 (Int32.not_lt.mpr (nI_le (b := 8) b2 (by decide)))
  · rcases h2 with ⟨a1', a2', rfl, rfl⟩ | ⟨j', e, b1', b2', c1'⟩
    · exfalso
      rcases a1' with a1 | a1
      · exact absurd a1 (Int32.not_lt.mpr (nI_le (a := 1) b1 (by omega)))
      · exact absurd a1 (Int32.not_lt.mpr (nI_le (b := 8) b2 (by decide)))
    · have hj : j = j' := nI_inj (by omega) (by omega) e
      subst hj
      rcases c1 with ⟨p1, p2, rfl, rfl⟩ | ⟨p1, p2, e1, e2⟩
      · rcases c1' with ⟨q1, q2, rfl, rfl⟩ | ⟨q1, q2, e1', e2'⟩
        · exact ⟨by rw [p2, q2], _, _, _, _, _, _, _, _, _, _, _, hX, hM, hO⟩
        · omega
      · rcases c1' with ⟨q1, q2, rfl, rfl⟩ | ⟨q1, q2, e1', e2'⟩
        · omega
        · refine ⟨by rw [p2, q2], m, ρ, pr, ld, fr, bg, n + j, fun i => if i < n then b i else byN v (j - 1 - (i - n)), μ, sn, im, ?_, ?_, hO.1, hO.2.1, ⟨q1, fun i hi => ?_⟩, hO.2.2.2⟩
          · refine (hX.tx (n2 := n + j) (b2 := fun i => if i < n then b i else byN v (j - 1 - (i - n))) (g2 := g1) (T2 := T1) (by rw [e1]; simp [upd]) (fun i hi => ?_) f1.1 f1.2).keep (fun k hk => f2.1 k (by omega)) (fun c hc => f2.2 c (by omega))
            rw [e2, tU_eq]
            exact tyD_at hX.2.2.1.2 i hi
          · refine hM1.tx (n2 := n + j) (b2 := fun i => if i < n then b i else byN v (j - 1 - (i - n))) (by rw [e1']; simp [upd]) (fun i hi => ?_) f2.1 f2.2
            rw [e2', tU_eq]
            exact tyD_at hM1.2.2.1.2 i hi
          · dsimp only
            split
            · rename_i h
              exact hO.2.2.1.2 i h
            · unfold byN
              exact Nat.mod_lt _ (by decide)
theorem st_cl {m : Nat} {ρ : Nat → Nat → Nat} {pr ld fr bg n : Nat} {b : Nat → Nat} {μ : MO} {sn : List (Nat × Nat × Nat)} {im : Nat → Option MO} {g g1 g2 : Nat → Int32} {T T1 T2 : Nat → Nat → Int32} (hX : SX m ρ pr ld fr bg n b μ sn im g T) (hM : SM m ρ pr ld fr bg n b μ sn im g T) (hO : AOK m ρ ld bg n b μ sn im) : Sb (upd (upd g 1 0) 4801 0) T := by
  refine ⟨m, ρ, pr, ld, fr, bg, 0, b, μ, sn, im, ?_, ?_, hO.1, hO.2.1, ⟨by omega, fun i hi => absurd hi (Nat.not_lt_zero i)⟩, hO.2.2.2⟩
  · refine (hX.tx (n2 := 0) (b2 := b) (g2 := upd g 1 0) (T2 := T) (by simp [upd]; decide) (fun i hi => absurd hi (Nat.not_lt_zero i)) (fun k hk => by simp [upd, hk]) (fun _ _ => rfl)).keep (fun k hk => ?_) (fun _ _ => rfl)
    simp only [upd]
    rw [if_neg (by omega)]
  · refine (hM.keep (g2 := upd g 1 0) (T2 := T) (fun k hk => ?_) (fun _ _ => rfl)).tx (n2 := 0) (b2 := b) (by simp [upd]; decide) (fun i hi => absurd hi (Nat.not_lt_zero i)) (fun k hk => by simp [upd, hk]) (fun _ _ => rfl)
    simp only [upd]
    rw [if_neg (by omega)]
theorem ThR.uni {m : Nat} {ρ : Nat → Nat → Nat} {s : Nat} {t x r r' : Int32} (hm : m ≤ 7) (h : ThR m ρ s t x r) (h' : ThR m ρ s t x r') : r = r' := by
  rcases h with ⟨a, b⟩ | ⟨j, rfl, hj, b⟩
  · rcases h' with ⟨a', b'⟩ | ⟨j', rfl, hj', b'⟩
    · rw [b, b']
    · exact absurd ⟨nI_pos' (by omega), nI_lt hj' (by omega)⟩ a
  · rcases h' with ⟨a', b'⟩ | ⟨j', e, hj', b'⟩
    · exact absurd ⟨nI_pos' (by omega), nI_lt hj (by omega)⟩ a'
    · have := nI_inj (a := j) (b := j') (by omega) (by omega) e
      subst this
      rw [b, b']
theorem SwR.fr {m k : Nat} {c t b r : Int32} {cg c1 c2 c3 : Nat} {g g2 : Nat → Int32} {T T2 : Nat → Nat → Int32} (h : SwR m k c t b r g g2 T T2 cg c1 c2 c3) : (∀ k, k ≠ cg → g2 k = g k) ∧ ∀ c, c ≠ c1 → c ≠ c2 → c ≠ c3 → T2 c = T c := by
  rcases h with ⟨_, _, rfl, rfl⟩ | ⟨i, j, w, _, _, _, _, _, _, ⟨_, _, rfl, rfl⟩ | ⟨_, _, rfl, rfl⟩⟩
  · exact ⟨fun _ _ => rfl, fun _ _ _ _ => rfl⟩
  · exact ⟨fun _ _ => rfl, fun _ _ _ _ => rfl⟩
  · exact ⟨fun k hk => by simp [upd, hk], fun c h1 h2 h3 => by rw [tU_ne h3, tU_ne h2, tU_ne h1]⟩
theorem get_app3 {l : List (Nat × Nat × Nat)} {e x : Nat × Nat × Nat} {i : Nat} (h : (l ++ [e])[i]? = some x) : l[i]? = some x ∨ (i = l.length ∧ x = e) := by
  by_cases hi : i < l.length
  · rw [List.getElem?_append_left hi] at h
    exact Or.inl h
  · rw [List.getElem?_append_right (by omega)] at h
    have h1 : i - l.length < 1 := (List.getElem?_eq_some_iff.mp h).1
    rw [show i - l.length = 0 by omega] at h
    simp at h
    exact Or.inr ⟨by omega, h.symm⟩
theorem st_sw {m : Nat} {ρ : Nat → Nat → Nat} {pr ld fr bg n : Nat} {b : Nat → Nat} {μ : MO} {sn : List (Nat × Nat × Nat)} {im : Nat → Option MO} {g g1 g2 : Nat → Int32} {T T1 T2 : Nat → Nat → Int32} {c t w r1 r2 : Int32} (hX : SX m ρ pr ld fr bg n b μ sn im g T) (hM : SM m ρ pr ld fr bg n b μ sn im g T) (hO : AOK m ρ ld bg n b μ sn im) (h1 : SwR m sn.length c t w r1 g g1 T T1 3100 32 33 34) (h2 : SwR m sn.length c t w r2 g1 g2 T1 T2 4817 55 56 57) : r1 = r2 ∧ Sb g2 T2 := by
  have hm := hX.1.1
  have f1 := h1.fr
  have f2 := h2.fr
  have hM1 := hM.keep (g2 := g1) (T2 := T1) (fun k hk => f1.1 k (by omega)) (fun c hc => f1.2 c (by omega) (by omega) (by omega))
  have hin : ∀ {i j y : Nat}, i ≤ 5 → j < m → y ≤ 1 → (0 ≤ nI i ∧ nI i ≤ 5) ∧ (0 ≤ nI j ∧ nI j < nI m) ∧ (0 : Int32) ≤ nI y ∧ nI y ≤ 1 := fun a b c => ⟨⟨nI_pos' (by omega), nI_le a (by decide)⟩, ⟨nI_pos' (by omega), nI_lt b (by omega)⟩, nI_pos' (by omega), nI_le c (by decide)⟩
  rcases h1 with ⟨a1, a2, rfl, rfl⟩ | ⟨i, j, y, rfl, hi, rfl, hj, rfl, hy, c1⟩
  · rcases h2 with ⟨a1', a2', rfl, rfl⟩ | ⟨i, j, y, rfl, hi, rfl, hj, rfl, hy, c1⟩
    · exact ⟨by rw [a2, a2'], _, _, _, _, _, _, _, _, _, _, _, hX, hM, hO⟩
    · exact absurd (hin hi hj hy) a1
  · rcases h2 with ⟨a1', a2', rfl, rfl⟩ | ⟨i', j', y', e1, hi', e2, hj', e3, hy', c1'⟩
    · exact absurd (hin hi hj hy) a1'
    · rcases c1 with ⟨p1, p2, rfl, rfl⟩ | ⟨p1, p2, q1, q2⟩
      · rcases c1' with ⟨p1', p2', rfl, rfl⟩ | ⟨p1', p2', q1', q2'⟩
        · exact ⟨by rw [p2, p2'], _, _, _, _, _, _, _, _, _, _, _, hX, hM, hO⟩
        · omega
      · rcases c1' with ⟨p1', p2', rfl, rfl⟩ | ⟨p1', p2', q1', q2'⟩
        · omega
        · have hs1 : rpS g1 T1 (sn ++ [(i, j, y)]) := by
            refine ⟨by rw [q1]; simp [upd], fun k q hq => ?_⟩
            rw [q2]
            rcases get_app3 hq with hq | ⟨rfl, rfl⟩
            · have hk := (List.getElem?_eq_some_iff.mp hq).1
              have h0 := hX.2.2.2.2.1.2 k q hq
              refine ⟨?_, ?_, ?_⟩
              · rw [tU_ne (by decide), tU_ne (by decide), tU_eq]; simp only [upd]; rw [if_neg (by omega)]; exact h0.1
              · rw [tU_ne (by decide), tU_eq]; simp only [upd]; rw [if_neg (by omega)]; exact h0.2.1
              · rw [tU_eq]; simp only [upd]; rw [if_neg (by omega)]; exact h0.2.2
            · refine ⟨?_, ?_, ?_⟩
              · rw [tU_ne (by decide), tU_ne (by decide), tU_eq]; simp [upd]
              · rw [tU_ne (by decide), tU_eq]; simp [upd]
              · rw [tU_eq]; simp [upd]
          have hs2 : rpSM g2 T2 (sn ++ [(i, j, y)]) := by
            refine ⟨by rw [q1']; simp [upd], fun k q hq => ?_⟩
            rw [q2']
            rcases get_app3 hq with hq | ⟨rfl, rfl⟩
            · have hk := (List.getElem?_eq_some_iff.mp hq).1
              have h0 := hM1.2.2.2.2.1.2 k q hq
              refine ⟨?_, ?_, ?_⟩
              · rw [tU_ne (by decide), tU_ne (by decide), tU_eq]; simp only [upd]; rw [if_neg (by omega)]; exact h0.1
              · rw [tU_ne (by decide), tU_eq]; simp only [upd]; rw [if_neg (by omega)]; exact h0.2.1
              · rw [tU_eq]; simp only [upd]; rw [if_neg (by omega)]; exact h0.2.2
            · refine ⟨?_, ?_, ?_⟩
              · rw [tU_ne (by decide), tU_ne (by decide), tU_eq]; simp [upd]
              · rw [tU_ne (by decide), tU_eq]; simp [upd]
              · rw [tU_eq]; simp [upd]
          refine ⟨by rw [p2, p2'], m, ρ, pr, ld, fr, bg, n, b, μ, sn ++ [(i, j, y)], im, (hX.se hs1 f1.1 (fun c hc => f1.2 c (by omega) (by omega) (by omega))).keep (fun k hk => f2.1 k (by omega)) (fun c hc => f2.2 c (by omega) (by omega) (by omega)), hM1.se hs2 f2.1 (fun c hc => f2.2 c (by omega) (by omega) (by omega)), hO.1, hO.2.1, hO.2.2.1, hO.2.2.2.1, ⟨by simp; omega, fun k q hq => ?_⟩, hO.2.2.2.2.2⟩
          rcases get_app3 hq with hq | ⟨rfl, rfl⟩
          · exact hO.2.2.2.2.1.2 k q hq
          · exact ⟨hi, by show j < 7; omega, hy⟩
theorem st_fo {m : Nat} {ρ : Nat → Nat → Nat} {pr ld fr bg n : Nat} {b : Nat → Nat} {μ : MO} {sn : List (Nat × Nat × Nat)} {im : Nat → Option MO} {g g1 g2 : Nat → Int32} {T T1 T2 : Nat → Nat → Int32} (hX : SX m ρ pr ld fr bg n b μ sn im g T) (hM : SM m ρ pr ld fr bg n b μ sn im g T) (hO : AOK m ρ ld bg n b μ sn im) : Sb (upd (upd g 3100 0) 4817 0) T := by
  refine ⟨m, ρ, pr, ld, fr, bg, n, b, μ, [], im, ?_, ?_, hO.1, hO.2.1, hO.2.2.1, hO.2.2.2.1, ⟨by simp, fun i q hq => by simp at hq⟩, hO.2.2.2.2.2⟩
  · refine (hX.se (g2 := upd g 3100 0) (T2 := T) (sn' := []) ⟨by simp [upd]; rfl, fun i q hq => by simp at hq⟩ (fun k hk => by simp [upd, hk]) (fun _ _ => rfl)).keep (fun k hk => ?_) (fun _ _ => rfl)
    simp only [upd]
    rw [if_neg (by omega)]
  · refine (hM.keep (g2 := upd g 3100 0) (T2 := T) (fun k hk => ?_) (fun _ _ => rfl)).se (sn' := []) ⟨by simp [upd]; rfl, fun i q hq => by simp at hq⟩ (fun k hk => by simp [upd, hk]) (fun _ _ => rfl)
    simp only [upd]
    rw [if_neg (by omega)]
theorem st_lo {m : Nat} {ρ : Nat → Nat → Nat} {pr ld fr bg n : Nat} {b : Nat → Nat} {μ : MO} {sn : List (Nat × Nat × Nat)} {im : Nat → Option MO} {g g1 g2 : Nat → Int32} {T T1 T2 : Nat → Nat → Int32} {v : Int32} (hX : SX m ρ pr ld fr bg n b μ sn im g T) (hM : SM m ρ pr ld fr bg n b μ sn im g T) (hO : AOK m ρ ld bg n b μ sn im) : Sb (upd (upd g 2003 v) 4814 v) T := by
  have k1 : MoOK (μ.1, μ.2.1, μ.2.2.1, v, μ.2.2.2.2) := hO.2.2.2.1
  obtain ⟨a1, a2, a3, a4, a5, a6⟩ := hX.2.2.2.1
  obtain ⟨c1, c2, c3, c4, c5, c6⟩ := hM.2.2.2.1
  refine st_mo hX hM hO k1 (g1 := upd g 2003 v) (T1 := T) ⟨?_, ?_, ?_, by simp [upd], ?_, a6⟩ ⟨fun k hk => ?_, fun _ _ _ => rfl⟩ ⟨?_, ?_, ?_, by simp [upd], ?_, c6⟩ ⟨fun k hk => ?_, fun _ _ => rfl⟩
  · simp [upd]; exact a1
  · simp [upd]; exact a2
  · simp [upd]; exact a3
  · simp [upd]; exact a5
  · simp only [upd]; rw [if_neg (by omega)]
  · simp [upd]; exact c1
  · simp [upd]; exact c2
  · simp [upd]; exact c3
  · simp [upd]; exact c5
  · simp only [upd]; rw [if_neg (by omega)]
theorem st_ke {m : Nat} {ρ : Nat → Nat → Nat} {pr ld fr bg n : Nat} {b : Nat → Nat} {μ : MO} {sn : List (Nat × Nat × Nat)} {im : Nat → Option MO} {g g1 g2 : Nat → Int32} {T T1 T2 : Nat → Nat → Int32} {im' : Nat → Option MO} (hX : SX m ρ pr ld fr bg n b μ sn im g T) (hM : SM m ρ pr ld fr bg n b μ sn im g T) (hO : AOK m ρ ld bg n b μ sn im) (hk : ∀ i ν, im' i = some ν → MoOK ν) (h1 : ∀ i, i ≤ 1 → ImX g1 T1 i (im' i)) (f1 : ∀ k, (k < 4200 ∨ 4504 < k) → g1 k = g k) (f2 : ∀ k, k ≠ 24 → (k < 43 ∨ 47 < k) → T1 k = T k) (h2 : ∀ i, i ≤ 1 → ImM T2 i (im' i)) (f3 : ∀ k, k ≠ 58 → T2 k = T1 k) : Sb g1 T2 := ⟨m, ρ, pr, ld, fr, bg, n, b, μ, sn, im', (hX.im h1 f1 f2).keep (fun _ _ => rfl) (fun c hc => f3 c (by omega)), (hM.keep (fun k hk => f1 k (by omega)) (fun c hc => f2 c (by omega) (by omega))).im (g2 := g1) h2 f3, hO.1, hO.2.1, hO.2.2.1, hO.2.2.2.1, hO.2.2.2.2.1, hk⟩
theorem SX.fA {m : Nat} {ρ : Nat → Nat → Nat} {pr ld fr bg n : Nat} {b : Nat → Nat} {μ : MO} {sn : List (Nat × Nat × Nat)} {im : Nat → Option MO} {g g2 : Nat → Int32} {T T2 : Nat → Nat → Int32} (h : SX m ρ pr ld fr bg n b μ sn im g T) (hF : FrA g g2 T T2) : SX m ρ pr ld fr bg n b μ sn im g2 T2 := by
  obtain ⟨a1, ⟨a2, a3, a4, a5⟩, ⟨a6, a7⟩, a8, a9, a10⟩ := h
  obtain ⟨hg, hT⟩ := hF
  exact ⟨a1.keep (fun k _ _ => hg k (by omega) (by omega)) (fun c _ _ => hT c (by omega) (by omega)), ⟨by rw [hg _ (by decide) (by decide)]; exact a2, by rw [hg _ (by decide) (by decide)]; exact a3, by rw [hg _ (by decide) (by decide)]; exact a4, by rw [hg _ (by decide) (by decide)]; exact a5⟩, ⟨by rw [hg _ (by decide) (by decide)]; exact a6, by rw [hT 1 (by decide) (by decide)]; exact a7⟩, a8.keep (fun j hj => hg _ (by omega) (by omega)) (hT _ (by decide) (by decide)) (hT _ (by decide) (by decide)), a9.keep (hg _ (by decide) (by decide)) (fun c _ _ => hT c (by omega) (by omega)), fun i hi => (a10 i hi).keep hi (fun k _ _ => hg k (by omega) (by omega)) (hT 24 (by decide) (by decide)) (fun c _ _ => hT c (by omega) (by omega))⟩
theorem SM.fQ {m : Nat} {ρ : Nat → Nat → Nat} {pr ld fr bg n : Nat} {b : Nat → Nat} {μ : MO} {sn : List (Nat × Nat × Nat)} {im : Nat → Option MO} {g g2 : Nat → Int32} {T T2 : Nat → Nat → Int32} {h h2 : Nat → Int64} (hs : SM m ρ pr ld fr bg n b μ sn im g T) (hF : FrQ g g2 h h2 T T2) : SM m ρ pr ld fr bg n b μ sn im g2 T2 := by
  obtain ⟨a1, ⟨a2, a3, a4, a5⟩, ⟨a6, a7⟩, a8, a9, a10⟩ := hs
  obtain ⟨hg, -, hT⟩ := hF
  exact ⟨a1.keep (hg _ (by decide)) (fun c _ _ => hT c (by omega)), ⟨by rw [hg _ (by decide)]; exact a2, by rw [hg _ (by decide)]; exact a3, by rw [hg _ (by decide)]; exact a4, by rw [hg _ (by decide)]; exact a5⟩, ⟨by rw [hg _ (by decide)]; exact a6, by rw [hT 49 (by decide)]; exact a7⟩, a8.keep (fun k _ _ => hg k (by omega)) (hT 54 (by decide)), a9.keep (hg _ (by decide)) (fun c _ _ => hT c (by omega)), fun i hi => (a10 i hi).kp (hT 58 (by decide))⟩
theorem stN_256 {s : RS} (hO : RsOK s) : stN s < 256 := by
  unfold stN
  have h1 := bsN_lt (f := s.2.1 4) (v := 1) (m := s.1)
  have h2 := p7 hO.1
  have h3 : bsN (s.2.1 4) 1 s.1 < 2 ^ 8 := by omega
  have h4 : (if s.2.2.2 0 = some 1 then 128 else 0) < 2 ^ 8 := by split <;> decide
  exact Nat.or_lt_two_pow h3 h4
/-- told anew on both sides -/
theorem st_ri {m : Nat} {ρ : Nat → Nat → Nat} {pr ld fr bg n : Nat} {b : Nat → Nat} {μ : MO} {sn : List (Nat × Nat × Nat)} {im : Nat → Option MO} {g g1 g2 : Nat → Int32} {T T1 T2 : Nat → Nat → Int32} {h h2 : Nat → Int64} {s : RS} (hX : SX m ρ pr ld fr bg n b μ sn im g T) (hM : SM m ρ pr ld fr bg n b μ sn im g T) (hO : AOK m ρ ld bg n b μ sn im) (hs : RsOK s) (hR : RvX g1 T1 s.1 s.2.1) (q1 : g1 602 = nI s.2.2.1) (q2 : g1 603 = nI (stN s)) (q3 : g1 604 = nI ((s.2.2.2 1).getD 2)) (q4 : g1 606 = nI ((s.2.2.2 3).getD 5)) (q5 : g1 2000 = nI (stN s)) (q6 : g1 2001 = nI ((s.2.2.2 2).getD 9)) (q7 : g1 2002 = 0) (q8 : g1 2003 = g 2003) (q9 : g1 2004 = 0) (q10 : g1 1 = 0) (q11 : g1 3100 = 0) (q12 : T1 24 0 = 0) (q13 : T1 24 1 = 0) (f1 : ∀ k, 4800 ≤ k → g1 k = g k) (hy : RyM g2 T1 T2 s) (hF : FrY g1 g2 h h2 T1 T2) : Sb g2 T2 := by
  obtain ⟨y1, y2, y3, y4, y5, y6, y7, y8, y9, y10, y11, y12, y13⟩ := hy
  obtain ⟨r1, r2, r3, r4, r5, r6, r7, r8, r9⟩ := hs
  have hs : RsOK s := ⟨r1, r2, r3, r4, r5, r6, r7, r8, r9⟩
  have hst := stN_256 hs
  have hd : (s.2.2.2 2).getD 9 ≤ 20 := by
    cases hq : s.2.2.2 2 with
    | none => decide
    | some v => exact r8 v hq
  have hl : (s.2.2.2 1).getD 2 ≤ 20 := by
    cases hq : s.2.2.2 1 with
    | none => decide
    | some v => exact (r7 v hq).2
  refine ⟨s.1, s.2.1, s.2.2.1, (s.2.2.2 1).getD 2, (s.2.2.2 3).getD 5, stN s, 0, b, (stN s, (s.2.2.2 2).getD 9, 0, μ.2.2.2.1, []), [], fun _ => none, ?_, ?_, ⟨hl, hst⟩, ⟨r4, r5⟩, ⟨by omega, fun i hi => absurd hi (Nat.not_lt_zero i)⟩, ⟨hst, hd, Nat.zero_le 9, Nat.zero_le 10, fun i q hq => by simp at hq⟩, ⟨by simp, fun i q hq => by simp at hq⟩, fun i ν hν => by cases hν⟩
  · refine (show SX s.1 s.2.1 s.2.2.1 ((s.2.2.2 1).getD 2) ((s.2.2.2 3).getD 5) (stN s) 0 b (stN s, (s.2.2.2 2).getD 9, 0, μ.2.2.2.1, []) [] (fun _ => none) g1 T1 from ⟨hR, ⟨q1, q2, q3, q4⟩, ⟨q10, fun i hi => absurd hi (Nat.not_lt_zero i)⟩, ⟨q5, q6, q7, by show g1 2003 = _; rw [q8]; exact hX.2.2.2.1.2.2.2.1, q9, fun i q hq => by simp at hq⟩, ⟨q11, fun i q hq => by simp at hq⟩, fun i hi => ?_⟩).keep (fun k hk => hF.1 k (by omega)) (fun c hc => hF.2.2 c (by omega))
    rcases (show i = 0 ∨ i = 1 by omega) with rfl | rfl
    · exact q12
    · exact q13
  · refine ⟨⟨r1, y1, y12, fun t ht => ⟨(r3 t ht).2.1, by have := (r3 t ht).2.2.2.1; omega, (r3 t ht).1, (r3 t ht).2.2.2.2.1⟩⟩, ⟨y2, y3, y5, y7⟩, ⟨y11, fun i hi => absurd hi (Nat.not_lt_zero i)⟩, ⟨y4, y6, y8, ?_, y9, fun i q hq => by simp at hq⟩, ⟨y10, fun i q hq => by simp at hq⟩, fun i hi => ?_⟩
    · rw [hF.1 4814 (by omega), f1 4814 (by omega)]
      exact hM.2.2.2.1.2.2.2.1
    · show T2 58 (30 * i) = 0
      rw [y13, if_pos (by omega)]
