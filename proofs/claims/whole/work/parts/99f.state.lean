/-! both sides, tied to one state -/
def SX (m : Nat) (ρ : Nat → Nat → Nat) (pr ld fr bg n : Nat) (b : Nat → Nat) (μ : MO) (sn : List (Nat × Nat × Nat)) (im : Nat → Option MO) (g : Nat → Int32) (T : Nat → Nat → Int32) : Prop := RvX g T m ρ ∧ (g 602 = nI pr ∧ g 603 = nI bg ∧ g 604 = nI ld ∧ g 606 = nI fr) ∧ (g 1 = nI n ∧ ∀ i, i < n → T 1 i = nI (b i)) ∧ MomX g T 20 μ ∧ rpS g T sn ∧ ∀ i, i ≤ 1 → ImX g T i (im i)
def SM (m : Nat) (ρ : Nat → Nat → Nat) (pr ld fr bg n : Nat) (b : Nat → Nat) (μ : MO) (sn : List (Nat × Nat × Nat)) (im : Nat → Option MO) (g : Nat → Int32) (T : Nat → Nat → Int32) : Prop := RvM g T m ρ ∧ (g 4803 = nI pr ∧ g 4810 = nI bg ∧ g 4808 = nI ld ∧ g 4809 = nI fr) ∧ (g 4801 = nI n ∧ ∀ i, i < n → T 49 i = nI (b i)) ∧ MoM g T μ ∧ rpSM g T sn ∧ ∀ i, i ≤ 1 → ImM T i (im i)
def AOK (m : Nat) (ρ : Nat → Nat → Nat) (ld bg n : Nat) (b : Nat → Nat) (μ : MO) (sn : List (Nat × Nat × Nat)) (im : Nat → Option MO) : Prop := (ld ≤ 20 ∧ bg < 256) ∧ ((∀ x y, x < m → y < m → (ρ 3 x).testBit y = (ρ 3 y).testBit x) ∧ ∀ x, x < m → (ρ 3 x).testBit x = false) ∧ (n ≤ 200 ∧ ∀ i, i < n → b i < 256) ∧ MoOK μ ∧ SnOK sn ∧ ∀ i ν, im i = some ν → MoOK ν
def Sa (g : Nat → Int32) (h : Nat → Int64) (T : Nat → Nat → Int32) : Prop := ∃ m ρ pr ld fr bg n b μ sn im, SX m ρ pr ld fr bg n b μ sn im g T ∧ SM m ρ pr ld fr bg n b μ sn im g T ∧ AOK m ρ ld bg n b μ sn im ∧ h 10 = h 4822
theorem RvX.keep {m : Nat} {ρ : Nat → Nat → Nat} {g g2 : Nat → Int32} {T T2 : Nat → Nat → Int32} (h : RvX g T m ρ) (hg : ∀ k, 600 ≤ k → k < 700 → g2 k = g k) (hT : ∀ c, 7 ≤ c → c < 13 → T2 c = T c) : RvX g2 T2 m ρ := by
  obtain ⟨a0, a1, a2, a3, a4, a5, a6, a7, a8⟩ := h
  refine ⟨a0, by rw [hg _ (by decide) (by decide)]; exact a1, by rw [hg _ (by decide) (by decide)]; exact a2, by rw [hg _ (by decide) (by decide)]; exact a3, by rw [hg _ (by decide) (by decide)]; exact a4, ?_, ?_, ?_, a8⟩
  · rw [hT 7 (by decide) (by decide), hT 8 (by decide) (by decide), hT 9 (by decide) (by decide), hT 10 (by decide) (by decide)]
    exact a5
  · rw [hT 11 (by decide) (by decide)]; exact a6
  · rw [hT 12 (by decide) (by decide)]; exact a7
theorem RvM.keep {m : Nat} {ρ : Nat → Nat → Nat} {g g2 : Nat → Int32} {T T2 : Nat → Nat → Int32} (h : RvM g T m ρ) (hg : g2 4802 = g 4802) (hT : ∀ c, 50 ≤ c → c < 54 → T2 c = T c) : RvM g2 T2 m ρ := by
  obtain ⟨a0, a1, a2, a3⟩ := h
  refine ⟨a0, by rw [hg]; exact a1, ?_, a3⟩
  rw [hT 50 (by decide) (by decide), hT 51 (by decide) (by decide), hT 52 (by decide) (by decide), hT 53 (by decide) (by decide)]
  exact a2
theorem rpS.keep {sn : List (Nat × Nat × Nat)} {g g2 : Nat → Int32} {T T2 : Nat → Nat → Int32} (h : rpS g T sn) (hg : g2 3100 = g 3100) (hT : ∀ c, 32 ≤ c → c < 35 → T2 c = T c) : rpS g2 T2 sn := by
  refine ⟨by rw [hg]; exact h.1, ?_⟩
  rw [hT 32 (by decide) (by decide), hT 33 (by decide) (by decide), hT 34 (by decide) (by decide)]
  exact h.2
theorem rpSM.keep {sn : List (Nat × Nat × Nat)} {g g2 : Nat → Int32} {T T2 : Nat → Nat → Int32} (h : rpSM g T sn) (hg : g2 4817 = g 4817) (hT : ∀ c, 55 ≤ c → c < 58 → T2 c = T c) : rpSM g2 T2 sn := by
  refine ⟨by rw [hg]; exact h.1, ?_⟩
  rw [hT 55 (by decide) (by decide), hT 56 (by decide) (by decide), hT 57 (by decide) (by decide)]
  exact h.2
theorem ImX.keep {g g2 : Nat → Int32} {T T2 : Nat → Nat → Int32} {i : Nat} {o : Option MO} (h : ImX g T i o) (hi : i ≤ 1) (hg : ∀ k, 4200 ≤ k → k ≤ 4504 → g2 k = g k) (h24 : T2 24 = T 24) (hT : ∀ c, 43 ≤ c → c ≤ 47 → T2 c = T c) : ImX g2 T2 i o := by
  cases o with
  | none =>
    show T2 24 i = 0
    rw [h24]; exact h
  | some ν => exact ⟨by rw [h24]; exact h.1, h.2.keep (fun j hj => hg _ (by omega) (by omega)) (hT _ (by omega) (by omega)) (hT _ (by omega) (by omega))⟩
theorem ImM.kp {T T2 : Nat → Nat → Int32} {i : Nat} {o : Option MO} (h : ImM T i o) (h58 : T2 58 = T 58) : ImM T2 i o := by
  cases o with
  | none =>
    show T2 58 (30 * i) = 0
    rw [h58]; exact h
  | some ν =>
    unfold ImM at h ⊢
    rw [h58]; exact h
theorem SX.keep {m : Nat} {ρ : Nat → Nat → Nat} {pr ld fr bg n : Nat} {b : Nat → Nat} {μ : MO} {sn : List (Nat × Nat × Nat)} {im : Nat → Option MO} {g g2 : Nat → Int32} {T T2 : Nat → Nat → Int32} (h : SX m ρ pr ld fr bg n b μ sn im g T) (hg : ∀ k, k < 4800 → g2 k = g k) (hT : ∀ c, c < 48 → T2 c = T c) : SX m ρ pr ld fr bg n b μ sn im g2 T2 := by
  obtain ⟨a1, ⟨a2, a3, a4, a5⟩, ⟨a6, a7⟩, a8, a9, a10⟩ := h
  refine ⟨a1.keep (fun k _ _ => hg k (by omega)) (fun c _ _ => hT c (by omega)), ⟨by rw [hg _ (by decide)]; exact a2, by rw [hg _ (by decide)]; exact a3, by rw [hg _ (by decide)]; exact a4, by rw [hg _ (by decide)]; exact a5⟩, ⟨by rw [hg _ (by decide)]; exact a6, by rw [hT 1 (by decide)]; exact a7⟩, a8.keep (fun j hj => hg _ (by omega)) (hT _ (by decide)) (hT _ (by decide)), a9.keep (hg _ (by decide)) (fun c _ _ => hT c (by omega)), fun i hi => (a10 i hi).keep hi (fun k _ _ => hg k (by omega)) (hT 24 (by decide)) (fun c _ _ => hT c (by omega))⟩
theorem SM.keep {m : Nat} {ρ : Nat → Nat → Nat} {pr ld fr bg n : Nat} {b : Nat → Nat} {μ : MO} {sn : List (Nat × Nat × Nat)} {im : Nat → Option MO} {g g2 : Nat → Int32} {T T2 : Nat → Nat → Int32} (h : SM m ρ pr ld fr bg n b μ sn im g T) (hg : ∀ k, 4800 ≤ k → g2 k = g k) (hT : ∀ c, 48 ≤ c → T2 c = T c) : SM m ρ pr ld fr bg n b μ sn im g2 T2 := by
  obtain ⟨a1, ⟨a2, a3, a4, a5⟩, ⟨a6, a7⟩, a8, a9, a10⟩ := h
  exact ⟨a1.keep (hg _ (by decide)) (fun c _ _ => hT c (by omega)), ⟨by rw [hg _ (by decide)]; exact a2, by rw [hg _ (by decide)]; exact a3, by rw [hg _ (by decide)]; exact a4, by rw [hg _ (by decide)]; exact a5⟩, ⟨by rw [hg _ (by decide)]; exact a6, by rw [hT 49 (by decide)]; exact a7⟩, a8.keep (fun k _ _ => hg k (by omega)) (hT 54 (by decide)), a9.keep (hg _ (by decide)) (fun c _ _ => hT c (by omega)), fun i hi => (a10 i hi).kp (hT 58 (by decide))⟩
/-- the moment of the program alone changes -/
theorem SX.mo {m : Nat} {ρ : Nat → Nat → Nat} {pr ld fr bg n : Nat} {b : Nat → Nat} {μ : MO} {sn : List (Nat × Nat × Nat)} {im : Nat → Option MO} {g g2 : Nat → Int32} {T T2 : Nat → Nat → Int32} {μ' : MO} (h : SX m ρ pr ld fr bg n b μ sn im g T) (hm : MomX g2 T2 20 μ') (hF : FrMo g g2 T T2) : SX m ρ pr ld fr bg n b μ' sn im g2 T2 := by
  obtain ⟨a1, ⟨a2, a3, a4, a5⟩, ⟨a6, a7⟩, a8, a9, a10⟩ := h
  obtain ⟨hg, hT⟩ := hF
  refine ⟨a1.keep (fun k _ _ => hg k (by omega)) (fun c _ _ => hT c (by omega) (by omega)), ⟨by rw [hg _ (by decide)]; exact a2, by rw [hg _ (by decide)]; exact a3, by rw [hg _ (by decide)]; exact a4, by rw [hg _ (by decide)]; exact a5⟩, ⟨by rw [hg _ (by decide)]; exact a6, by rw [hT 1 (by decide) (by decide)]; exact a7⟩, hm, a9.keep (hg _ (by decide)) (fun c _ _ => hT c (by omega) (by omega)), fun i hi => (a10 i hi).keep hi (fun k _ _ => hg k (by omega)) (hT 24 (by decide) (by decide)) (fun c _ _ => hT c (by omega) (by omega))⟩
theorem SM.mo {m : Nat} {ρ : Nat → Nat → Nat} {pr ld fr bg n : Nat} {b : Nat → Nat} {μ : MO} {sn : List (Nat × Nat × Nat)} {im : Nat → Option MO} {g g2 : Nat → Int32} {T T2 : Nat → Nat → Int32} {μ' : MO} (h : SM m ρ pr ld fr bg n b μ sn im g T) (hm : MoM g2 T2 μ') (hF : FrMm g g2 T T2) : SM m ρ pr ld fr bg n b μ' sn im g2 T2 := by
  obtain ⟨a1, ⟨a2, a3, a4, a5⟩, ⟨a6, a7⟩, a8, a9, a10⟩ := h
  obtain ⟨hg, hT⟩ := hF
  exact ⟨a1.keep (hg _ (by decide)) (fun c _ _ => hT c (by omega)), ⟨by rw [hg _ (by decide)]; exact a2, by rw [hg _ (by decide)]; exact a3, by rw [hg _ (by decide)]; exact a4, by rw [hg _ (by decide)]; exact a5⟩, ⟨by rw [hg _ (by decide)]; exact a6, by rw [hT 49 (by decide)]; exact a7⟩, hm, a9.keep (hg _ (by decide)) (fun c _ _ => hT c (by omega)), fun i hi => (a10 i hi).kp (hT 58 (by decide))⟩
theorem SM.ofMo {m : Nat} {ρ : Nat → Nat → Nat} {pr ld fr bg n : Nat} {b : Nat → Nat} {μ : MO} {sn : List (Nat × Nat × Nat)} {im : Nat → Option MO} {g g2 : Nat → Int32} {T T2 : Nat → Nat → Int32} (h : SM m ρ pr ld fr bg n b μ sn im g T) (hF : FrMo g g2 T T2) : SM m ρ pr ld fr bg n b μ sn im g2 T2 := h.keep (fun k hk => hF.1 k (by omega)) (fun c hc => hF.2 c (by omega) (by omega))
theorem SX.ofMm {m : Nat} {ρ : Nat → Nat → Nat} {pr ld fr bg n : Nat} {b : Nat → Nat} {μ : MO} {sn : List (Nat × Nat × Nat)} {im : Nat → Option MO} {g g2 : Nat → Int32} {T T2 : Nat → Nat → Int32} (h : SX m ρ pr ld fr bg n b μ sn im g T) (hF : FrMm g g2 T T2) : SX m ρ pr ld fr bg n b μ sn im g2 T2 := h.keep (fun k hk => hF.1 k (by omega)) (fun c hc => hF.2 c (by omega))
/-- plans: what they hold is not of the state -/
theorem SX.pl {m : Nat} {ρ : Nat → Nat → Nat} {pr ld fr bg n : Nat} {b : Nat → Nat} {μ : MO} {sn : List (Nat × Nat × Nat)} {im : Nat → Option MO} {g g2 : Nat → Int32} {T T2 : Nat → Nat → Int32} (h : SX m ρ pr ld fr bg n b μ sn im g T) (hF : FrX g g2 T T2) : SX m ρ pr ld fr bg n b μ sn im g2 T2 := by
  obtain ⟨a1, ⟨a2, a3, a4, a5⟩, ⟨a6, a7⟩, a8, a9, a10⟩ := h
  obtain ⟨hg, hT⟩ := hF
  refine ⟨a1.keep (fun k _ _ => hg k (by omega)) (fun c _ _ => hT c (by omega)), ⟨by rw [hg _ (by decide)]; exact a2, by rw [hg _ (by decide)]; exact a3, by rw [hg _ (by decide)]; exact a4, by rw [hg _ (by decide)]; exact a5⟩, ⟨by rw [hg _ (by decide)]; exact a6, by rw [hT 1 (by decide)]; exact a7⟩, a8.keep (fun j hj => hg _ (by omega)) (hT _ (by decide)) (hT _ (by decide)), a9.keep (hg _ (by decide)) (fun c _ _ => hT c (by omega)), fun i hi => (a10 i hi).keep hi (fun k _ _ => hg k (by omega)) (hT 24 (by decide)) (fun c _ _ => hT c (by omega))⟩
theorem SM.pl {m : Nat} {ρ : Nat → Nat → Nat} {pr ld fr bg n : Nat} {b : Nat → Nat} {μ : MO} {sn : List (Nat × Nat × Nat)} {im : Nat → Option MO} {g g2 : Nat → Int32} {T T2 : Nat → Nat → Int32} (h : SM m ρ pr ld fr bg n b μ sn im g T) (hF : FrP g g2 T T2) : SM m ρ pr ld fr bg n b μ sn im g2 T2 := by
  obtain ⟨a1, ⟨a2, a3, a4, a5⟩, ⟨a6, a7⟩, a8, a9, a10⟩ := h
  obtain ⟨hg, hT⟩ := hF
  exact ⟨a1.keep (hg _ (by decide)) (fun c _ _ => hT c (by omega)), ⟨by rw [hg _ (by decide)]; exact a2, by rw [hg _ (by decide)]; exact a3, by rw [hg _ (by decide)]; exact a4, by rw [hg _ (by decide)]; exact a5⟩, ⟨by rw [hg _ (by decide)]; exact a6, by rw [hT 49 (by decide)]; exact a7⟩, a8.keep (fun k _ _ => hg k (by omega)) (hT 54 (by decide)), a9.keep (hg _ (by decide)) (fun c _ _ => hT c (by omega)), fun i hi => (a10 i hi).kp (hT 58 (by decide))⟩
theorem SM.ofPl {m : Nat} {ρ : Nat → Nat → Nat} {pr ld fr bg n : Nat} {b : Nat → Nat} {μ : MO} {sn : List (Nat × Nat × Nat)} {im : Nat → Option MO} {g g2 : Nat → Int32} {T T2 : Nat → Nat → Int32} (h : SM m ρ pr ld fr bg n b μ sn im g T) (hF : FrX g g2 T T2) : SM m ρ pr ld fr bg n b μ sn im g2 T2 := h.keep (fun k hk => hF.1 k (by omega)) (fun c hc => hF.2 c (by omega))
theorem SX.ofPl {m : Nat} {ρ : Nat → Nat → Nat} {pr ld fr bg n : Nat} {b : Nat → Nat} {μ : MO} {sn : List (Nat × Nat × Nat)} {im : Nat → Option MO} {g g2 : Nat → Int32} {T T2 : Nat → Nat → Int32} (h : SX m ρ pr ld fr bg n b μ sn im g T) (hF : FrP g g2 T T2) : SX m ρ pr ld fr bg n b μ sn im g2 T2 := h.keep (fun k hk => hF.1 k (by omega)) (fun c hc => hF.2 c (by omega))
/-- the text -/
theorem SX.tx {m : Nat} {ρ : Nat → Nat → Nat} {pr ld fr bg n : Nat} {b : Nat → Nat} {μ : MO} {sn : List (Nat × Nat × Nat)} {im : Nat → Option MO} {g g2 : Nat → Int32} {T T2 : Nat → Nat → Int32} {n2 : Nat} {b2 : Nat → Nat} (h : SX m ρ pr ld fr bg n b μ sn im g T) (h1 : g2 1 = nI n2) (h2 : ∀ i, i < n2 → T2 1 i = nI (b2 i)) (hg : ∀ k, k ≠ 1 → g2 k = g k) (hT : ∀ c, c ≠ 1 → T2 c = T c) : SX m ρ pr ld fr bg n2 b2 μ sn im g2 T2 := by
  obtain ⟨a1, ⟨a2, a3, a4, a5⟩, ⟨a6, a7⟩, a8, a9, a10⟩ := h
  refine ⟨a1.keep (fun k _ _ => hg k (by omega)) (fun c _ _ => hT c (by omega)), ⟨by rw [hg _ (by decide)]; exact a2, by rw [hg _ (by decide)]; exact a3, by rw [hg _ (by decide)]; exact a4, by rw [hg _ (by decide)]; exact a5⟩, ⟨h1, h2⟩, a8.keep (fun j hj => hg _ (by omega)) (hT _ (by decide)) (hT _ (by decide)), a9.keep (hg _ (by decide)) (fun c _ _ => hT c (by omega)), fun i hi => (a10 i hi).keep hi (fun k _ _ => hg k (by omega)) (hT 24 (by decide)) (fun c _ _ => hT c (by omega))⟩
theorem SM.tx {m : Nat} {ρ : Nat → Nat → Nat} {pr ld fr bg n : Nat} {b : Nat → Nat} {μ : MO} {sn : List (Nat × Nat × Nat)} {im : Nat → Option MO} {g g2 : Nat → Int32} {T T2 : Nat → Nat → Int32} {n2 : Nat} {b2 : Nat → Nat} (h : SM m ρ pr ld fr bg n b μ sn im g T) (h1 : g2 4801 = nI n2) (h2 : ∀ i, i < n2 → T2 49 i = nI (b2 i)) (hg : ∀ k, k ≠ 4801 → g2 k = g k) (hT : ∀ c, c ≠ 49 → T2 c = T c) : SM m ρ pr ld fr bg n2 b2 μ sn im g2 T2 := by
  obtain ⟨a1, ⟨a2, a3, a4, a5⟩, ⟨a6, a7⟩, a8, a9, a10⟩ := h
  exact ⟨a1.keep (hg _ (by decide)) (fun c _ _ => hT c (by omega)), ⟨by rw [hg _ (by decide)]; exact a2, by rw [hg _ (by decide)]; exact a3, by rw [hg _ (by decide)]; exact a4, by rw [hg _ (by decide)]; exact a5⟩, ⟨h1, h2⟩, a8.keep (fun k _ _ => hg k (by omega)) (hT 54 (by decide)), a9.keep (hg _ (by decide)) (fun c _ _ => hT c (by omega)), fun i hi => (a10 i hi).kp (hT 58 (by decide))⟩
/-- what was seen -/
theorem SX.se {m : Nat} {ρ : Nat → Nat → Nat} {pr ld fr bg n : Nat} {b : Nat → Nat} {μ : MO} {sn : List (Nat × Nat × Nat)} {im : Nat → Option MO} {g g2 : Nat → Int32} {T T2 : Nat → Nat → Int32} {sn' : List (Nat × Nat × Nat)} (h : SX m ρ pr ld fr bg n b μ sn im g T) (h1 : rpS g2 T2 sn') (hg : ∀ k, k ≠ 3100 → g2 k = g k) (hT : ∀ c, (c < 32 ∨ 34 < c) → T2 c = T c) : SX m ρ pr ld fr bg n b μ sn' im g2 T2 := by
  obtain ⟨a1, ⟨a2, a3, a4, a5⟩, ⟨a6, a7⟩, a8, a9, a10⟩ := h
  refine ⟨a1.keep (fun k _ _ => hg k (by omega)) (fun c _ _ => hT c (by omega)), ⟨by rw [hg _ (by decide)]; exact a2, by rw [hg _ (by decide)]; exact a3, by rw [hg _ (by decide)]; exact a4, by rw [hg _ (by decide)]; exact a5⟩, ⟨by rw [hg _ (by decide)]; exact a6, by rw [hT 1 (by decide)]; exact a7⟩, a8.keep (fun j hj => hg _ (by omega)) (hT _ (by decide)) (hT _ (by decide)), h1, fun i hi => (a10 i hi).keep hi (fun k _ _ => hg k (by omega)) (hT 24 (by decide)) (fun c _ _ => hT c (by omega))⟩
theorem SM.se {m : Nat} {ρ : Nat → Nat → Nat} {pr ld fr bg n : Nat} {b : Nat → Nat} {μ : MO} {sn : List (Nat × Nat × Nat)} {im : Nat → Option MO} {g g2 : Nat → Int32} {T T2 : Nat → Nat → Int32} {sn' : List (Nat × Nat × Nat)} (h : SM m ρ pr ld fr bg n b μ sn im g T) (h1 : rpSM g2 T2 sn') (hg : ∀ k, k ≠ 4817 → g2 k = g k) (hT : ∀ c, (c < 55 ∨ 57 < c) → T2 c = T c) : SM m ρ pr ld fr bg n b μ sn' im g2 T2 := by
  obtain ⟨a1, ⟨a2, a3, a4, a5⟩, ⟨a6, a7⟩, a8, a9, a10⟩ := h
  exact ⟨a1.keep (hg _ (by decide)) (fun c _ _ => hT c (by omega)), ⟨by rw [hg _ (by decide)]; exact a2, by rw [hg _ (by decide)]; exact a3, by rw [hg _ (by decide)]; exact a4, by rw [hg _ (by decide)]; exact a5⟩, ⟨by rw [hg _ (by decide)]; exact a6, by rw [hT 49 (by decide)]; exact a7⟩, a8.keep (fun k _ _ => hg k (by omega)) (hT 54 (by decide)), h1, fun i hi => (a10 i hi).kp (hT 58 (by decide))⟩
/-- images -/
theorem SX.im {m : Nat} {ρ : Nat → Nat → Nat} {pr ld fr bg n : Nat} {b : Nat → Nat} {μ : MO} {sn : List (Nat × Nat × Nat)} {im : Nat → Option MO} {g g2 : Nat → Int32} {T T2 : Nat → Nat → Int32} {im' : Nat → Option MO} (h : SX m ρ pr ld fr bg n b μ sn im g T) (h1 : ∀ i, i ≤ 1 → ImX g2 T2 i (im' i)) (hg : ∀ k, (k < 4200 ∨ 4504 < k) → g2 k = g k) (hT : ∀ c, c ≠ 24 → (c < 43 ∨ 47 < c) → T2 c = T c) : SX m ρ pr ld fr bg n b μ sn im' g2 T2 := by
  obtain ⟨a1, ⟨a2, a3, a4, a5⟩, ⟨a6, a7⟩, a8, a9, a10⟩ := h
  exact ⟨a1.keep (fun k _ _ => hg k (by omega)) (fun c _ _ => hT c (by omega) (by omega)), ⟨by rw [hg _ (by decide)]; exact a2, by rw [hg _ (by decide)]; exact a3, by rw [hg _ (by decide)]; exact a4, by rw [hg _ (by decide)]; exact a5⟩, ⟨by rw [hg _ (by decide)]; exact a6, by rw [hT 1 (by decide) (by decide)]; exact a7⟩, a8.keep (fun j hj => hg _ (by omega)) (hT _ (by decide) (by decide)) (hT _ (by decide) (by decide)), a9.keep (hg _ (by decide)) (fun c _ _ => hT c (by omega) (by omega)), h1⟩
theorem SM.im {m : Nat} {ρ : Nat → Nat → Nat} {pr ld fr bg n : Nat} {b : Nat → Nat} {μ : MO} {sn : List (Nat × Nat × Nat)} {im : Nat → Option MO} {g g2 : Nat → Int32} {T T2 : Nat → Nat → Int32} {im' : Nat → Option MO} (h : SM m ρ pr ld fr bg n b μ sn im g T) (h1 : ∀ i, i ≤ 1 → ImM T2 i (im' i)) (hT : ∀ c, c ≠ 58 → T2 c = T c) : SM m ρ pr ld fr bg n b μ sn im' g T2 := by
  obtain ⟨a1, ⟨a2, a3, a4, a5⟩, ⟨a6, a7⟩, a8, a9, a10⟩ := h
  exact ⟨a1.keep rfl (fun c _ _ => hT c (by omega)), ⟨a2, a3, a4, a5⟩, ⟨a6, by rw [hT 49 (by decide)]; exact a7⟩, a8.keep (fun k _ _ => rfl) (hT 54 (by decide)), a9.keep rfl (fun c _ _ => hT c (by omega)), h1⟩
theorem SX.b {m : Nat} {ρ : Nat → Nat → Nat} {pr ld fr bg n : Nat} {b : Nat → Nat} {μ : MO} {sn : List (Nat × Nat × Nat)} {im : Nat → Option MO} {g g2 : Nat → Int32} {T T2 : Nat → Nat → Int32} (h : SX m ρ pr ld fr bg n b μ sn im g T) (ho : AOK m ρ ld bg n b μ sn im) : ∀ i, i < n → T 1 i = nI (b i) ∧ b i < 256 := fun i hi => ⟨h.2.2.1.2 i hi, ho.2.2.1.2 i hi⟩
theorem SM.b {m : Nat} {ρ : Nat → Nat → Nat} {pr ld fr bg n : Nat} {b : Nat → Nat} {μ : MO} {sn : List (Nat × Nat × Nat)} {im : Nat → Option MO} {g g2 : Nat → Int32} {T T2 : Nat → Nat → Int32} (h : SM m ρ pr ld fr bg n b μ sn im g T) (ho : AOK m ρ ld bg n b μ sn im) : MtX g T n b := ⟨ho.2.2.1.1, h.2.2.1.1, fun i hi => ⟨h.2.2.1.2 i hi, ho.2.2.1.2 i hi⟩⟩
