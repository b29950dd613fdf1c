theorem kcL_law_13 : Cond.constantLong RL 13 (4294967295) ∈ wsL_law := by decide +kernel
theorem dm_X5_back : yX5_back.cls = RX5 ∧ yX5_back.cls ≠ "java/lang/invoke/MethodHandle" ∧ yX5_back.cls ≠ "java/lang/invoke/VarHandle" ∧ (parseMethodDescriptor yX5_back.desc).map (fun d => d.parameters.length) = some 1 := by decide +kernel
theorem dm_X5_clear : yX5_clear.cls = RX5 ∧ yX5_clear.cls ≠ "java/lang/invoke/MethodHandle" ∧ yX5_clear.cls ≠ "java/lang/invoke/VarHandle" ∧ (parseMethodDescriptor yX5_clear.desc).map (fun d => d.parameters.length) = some 0 := by decide +kernel
theorem dm_X5_count : yX5_count.cls = RX5 ∧ yX5_count.cls ≠ "java/lang/invoke/MethodHandle" ∧ yX5_count.cls ≠ "java/lang/invoke/VarHandle" ∧ (parseMethodDescriptor yX5_count.desc).map (fun d => d.parameters.length) = some 1 := by decide +kernel
theorem dm_X5_cross : yX5_cross.cls = RX5 ∧ yX5_cross.cls ≠ "java/lang/invoke/MethodHandle" ∧ yX5_cross.cls ≠ "java/lang/invoke/VarHandle" ∧ (parseMethodDescriptor yX5_cross.desc).map (fun d => d.parameters.length) = some 1 := by decide +kernel
theorem dm_X5_done : yX5_done.cls = RX5 ∧ yX5_done.cls ≠ "java/lang/invoke/MethodHandle" ∧ yX5_done.cls ≠ "java/lang/invoke/VarHandle" ∧ (parseMethodDescriptor yX5_done.desc).map (fun d => d.parameters.length) = some 1 := by decide +kernel
theorem dm_X5_fits : yX5_fits.cls = RX5 ∧ yX5_fits.cls ≠ "java/lang/invoke/MethodHandle" ∧ yX5_fits.cls ≠ "java/lang/invoke/VarHandle" ∧ (parseMethodDescriptor yX5_fits.desc).map (fun d => d.parameters.length) = some 2 := by decide +kernel
theorem dm_X5_forget : yX5_forget.cls = RX5 ∧ yX5_forget.cls ≠ "java/lang/invoke/MethodHandle" ∧ yX5_forget.cls ≠ "java/lang/invoke/VarHandle" ∧ (parseMethodDescriptor yX5_forget.desc).map (fun d => d.parameters.length) = some 0 := by decide +kernel
theorem dm_X5_keep : yX5_keep.cls = RX5 ∧ yX5_keep.cls ≠ "java/lang/invoke/MethodHandle" ∧ yX5_keep.cls ≠ "java/lang/invoke/VarHandle" ∧ (parseMethodDescriptor yX5_keep.desc).map (fun d => d.parameters.length) = some 1 := by decide +kernel
theorem dm_X5_least : yX5_least.cls = RX5 ∧ yX5_least.cls ≠ "java/lang/invoke/MethodHandle" ∧ yX5_least.cls ≠ "java/lang/invoke/VarHandle" ∧ (parseMethodDescriptor yX5_least.desc).map (fun d => d.parameters.length) = some 0 := by decide +kernel
theorem dm_X5_lot : yX5_lot.cls = RX5 ∧ yX5_lot.cls ≠ "java/lang/invoke/MethodHandle" ∧ yX5_lot.cls ≠ "java/lang/invoke/VarHandle" ∧ (parseMethodDescriptor yX5_lot.desc).map (fun d => d.parameters.length) = some 1 := by decide +kernel
theorem dm_X5_mark : yX5_mark.cls = RX5 ∧ yX5_mark.cls ≠ "java/lang/invoke/MethodHandle" ∧ yX5_mark.cls ≠ "java/lang/invoke/VarHandle" ∧ (parseMethodDescriptor yX5_mark.desc).map (fun d => d.parameters.length) = some 2 := by decide +kernel
theorem dm_X5_night : yX5_night.cls = RX5 ∧ yX5_night.cls ≠ "java/lang/invoke/MethodHandle" ∧ yX5_night.cls ≠ "java/lang/invoke/VarHandle" ∧ (parseMethodDescriptor yX5_night.desc).map (fun d => d.parameters.length) = some 0 := by decide +kernel
theorem dm_X5_now : yX5_now.cls = RX5 ∧ yX5_now.cls ≠ "java/lang/invoke/MethodHandle" ∧ yX5_now.cls ≠ "java/lang/invoke/VarHandle" ∧ (parseMethodDescriptor yX5_now.desc).map (fun d => d.parameters.length) = some 1 := by decide +kernel
theorem dm_X5_owed : yX5_owed.cls = RX5 ∧ yX5_owed.cls ≠ "java/lang/invoke/MethodHandle" ∧ yX5_owed.cls ≠ "java/lang/invoke/VarHandle" ∧ (parseMethodDescriptor yX5_owed.desc).map (fun d => d.parameters.length) = some 2 := by decide +kernel
theorem dm_X5_rent : yX5_rent.cls = RX5 ∧ yX5_rent.cls ≠ "java/lang/invoke/MethodHandle" ∧ yX5_rent.cls ≠ "java/lang/invoke/VarHandle" ∧ (parseMethodDescriptor yX5_rent.desc).map (fun d => d.parameters.length) = some 2 := by decide +kernel
theorem dm_X5_rest : yX5_rest.cls = RX5 ∧ yX5_rest.cls ≠ "java/lang/invoke/MethodHandle" ∧ yX5_rest.cls ≠ "java/lang/invoke/VarHandle" ∧ (parseMethodDescriptor yX5_rest.desc).map (fun d => d.parameters.length) = some 0 := by decide +kernel
theorem dm_X5_river : yX5_river.cls = RX5 ∧ yX5_river.cls ≠ "java/lang/invoke/MethodHandle" ∧ yX5_river.cls ≠ "java/lang/invoke/VarHandle" ∧ (parseMethodDescriptor yX5_river.desc).map (fun d => d.parameters.length) = some 0 := by decide +kernel
theorem dm_X5_saw : yX5_saw.cls = RX5 ∧ yX5_saw.cls ≠ "java/lang/invoke/MethodHandle" ∧ yX5_saw.cls ≠ "java/lang/invoke/VarHandle" ∧ (parseMethodDescriptor yX5_saw.desc).map (fun d => d.parameters.length) = some 3 := by decide +kernel
theorem dm_X5_slide : yX5_slide.cls = RX5 ∧ yX5_slide.cls ≠ "java/lang/invoke/MethodHandle" ∧ yX5_slide.cls ≠ "java/lang/invoke/VarHandle" ∧ (parseMethodDescriptor yX5_slide.desc).map (fun d => d.parameters.length) = some 1 := by decide +kernel
theorem dm_X5_sooner : yX5_sooner.cls = RX5 ∧ yX5_sooner.cls ≠ "java/lang/invoke/MethodHandle" ∧ yX5_sooner.cls ≠ "java/lang/invoke/VarHandle" ∧ (parseMethodDescriptor yX5_sooner.desc).map (fun d => d.parameters.length) = some 1 := by decide +kernel
theorem dm_X5_standings : yX5_standings.cls = RX5 ∧ yX5_standings.cls ≠ "java/lang/invoke/MethodHandle" ∧ yX5_standings.cls ≠ "java/lang/invoke/VarHandle" ∧ (parseMethodDescriptor yX5_standings.desc).map (fun d => d.parameters.length) = some 0 := by decide +kernel
theorem dm_X5_thing : yX5_thing.cls = RX5 ∧ yX5_thing.cls ≠ "java/lang/invoke/MethodHandle" ∧ yX5_thing.cls ≠ "java/lang/invoke/VarHandle" ∧ (parseMethodDescriptor yX5_thing.desc).map (fun d => d.parameters.length) = some 2 := by decide +kernel
theorem dm_X5_trace : yX5_trace.cls = RX5 ∧ yX5_trace.cls ≠ "java/lang/invoke/MethodHandle" ∧ yX5_trace.cls ≠ "java/lang/invoke/VarHandle" ∧ (parseMethodDescriptor yX5_trace.desc).map (fun d => d.parameters.length) = some 0 := by decide +kernel
theorem dm_X5_type : yX5_type.cls = RX5 ∧ yX5_type.cls ≠ "java/lang/invoke/MethodHandle" ∧ yX5_type.cls ≠ "java/lang/invoke/VarHandle" ∧ (parseMethodDescriptor yX5_type.desc).map (fun d => d.parameters.length) = some 2 := by decide +kernel
theorem dm_X5_undo : yX5_undo.cls = RX5 ∧ yX5_undo.cls ≠ "java/lang/invoke/MethodHandle" ∧ yX5_undo.cls ≠ "java/lang/invoke/VarHandle" ∧ (parseMethodDescriptor yX5_undo.desc).map (fun d => d.parameters.length) = some 0 := by decide +kernel
theorem dm_X6_back : yX6_back.cls = RX6 ∧ yX6_back.cls ≠ "java/lang/invoke/MethodHandle" ∧ yX6_back.cls ≠ "java/lang/invoke/VarHandle" ∧ (parseMethodDescriptor yX6_back.desc).map (fun d => d.parameters.length) = some 1 := by decide +kernel
theorem dm_X6_clear : yX6_clear.cls = RX6 ∧ yX6_clear.cls ≠ "java/lang/invoke/MethodHandle" ∧ yX6_clear.cls ≠ "java/lang/invoke/VarHandle" ∧ (parseMethodDescriptor yX6_clear.desc).map (fun d => d.parameters.length) = some 0 := by decide +kernel
theorem dm_X6_count : yX6_count.cls = RX6 ∧ yX6_count.cls ≠ "java/lang/invoke/MethodHandle" ∧ yX6_count.cls ≠ "java/lang/invoke/VarHandle" ∧ (parseMethodDescriptor yX6_count.desc).map (fun d => d.parameters.length) = some 1 := by decide +kernel
theorem dm_X6_cross : yX6_cross.cls = RX6 ∧ yX6_cross.cls ≠ "java/lang/invoke/MethodHandle" ∧ yX6_cross.cls ≠ "java/lang/invoke/VarHandle" ∧ (parseMethodDescriptor yX6_cross.desc).map (fun d => d.parameters.length) = some 1 := by decide +kernel
theorem dm_X6_done : yX6_done.cls = RX6 ∧ yX6_done.cls ≠ "java/lang/invoke/MethodHandle" ∧ yX6_done.cls ≠ "java/lang/invoke/VarHandle" ∧ (parseMethodDescriptor yX6_done.desc).map (fun d => d.parameters.length) = some 1 := by decide +kernel
theorem dm_X6_fits : yX6_fits.cls = RX6 ∧ yX6_fits.cls ≠ "java/lang/invoke/MethodHandle" ∧ yX6_fits.cls ≠ "java/lang/invoke/VarHandle" ∧ (parseMethodDescriptor yX6_fits.desc).map (fun d => d.parameters.length) = some 2 := by decide +kernel
theorem dm_X6_forget : yX6_forget.cls = RX6 ∧ yX6_forget.cls ≠ "java/lang/invoke/MethodHandle" ∧ yX6_forget.cls ≠ "java/lang/invoke/VarHandle" ∧ (parseMethodDescriptor yX6_forget.desc).map (fun d => d.parameters.length) = some 0 := by decide +kernel
theorem dm_X6_keep : yX6_keep.cls = RX6 ∧ yX6_keep.cls ≠ "java/lang/invoke/MethodHandle" ∧ yX6_keep.cls ≠ "java/lang/invoke/VarHandle" ∧ (parseMethodDescriptor yX6_keep.desc).map (fun d => d.parameters.length) = some 1 := by decide +kernel
theorem dm_X6_least : yX6_least.cls = RX6 ∧ yX6_least.cls ≠ "java/lang/invoke/MethodHandle" ∧ yX6_least.cls ≠ "java/lang/invoke/VarHandle" ∧ (parseMethodDescriptor yX6_least.desc).map (fun d => d.parameters.length) = some 0 := by decide +kernel
theorem dm_X6_lot : yX6_lot.cls = RX6 ∧ yX6_lot.cls ≠ "java/lang/invoke/MethodHandle" ∧ yX6_lot.cls ≠ "java/lang/invoke/VarHandle" ∧ (parseMethodDescriptor yX6_lot.desc).map (fun d => d.parameters.length) = some 1 := by decide +kernel
theorem dm_X6_mark : yX6_mark.cls = RX6 ∧ yX6_mark.cls ≠ "java/lang/invoke/MethodHandle" ∧ yX6_mark.cls ≠ "java/lang/invoke/VarHandle" ∧ (parseMethodDescriptor yX6_mark.desc).map (fun d => d.parameters.length) = some 2 := by decide +kernel
theorem dm_X6_night : yX6_night.cls = RX6 ∧ yX6_night.cls ≠ "java/lang/invoke/MethodHandle" ∧ yX6_night.cls ≠ "java/lang/invoke/VarHandle" ∧ (parseMethodDescriptor yX6_night.desc).map (fun d => d.parameters.length) = some 0 := by decide +kernel
theorem dm_X6_now : yX6_now.cls = RX6 ∧ yX6_now.cls ≠ "java/lang/invoke/MethodHandle" ∧ yX6_now.cls ≠ "java/lang/invoke/VarHandle" ∧ (parseMethodDescriptor yX6_now.desc).map (fun d => d.parameters.length) = some 1 := by decide +kernel
theorem dm_X6_owed : yX6_owed.cls = RX6 ∧ yX6_owed.cls ≠ "java/lang/invoke/MethodHandle" ∧ yX6_owed.cls ≠ "java/lang/invoke/VarHandle" ∧ (parseMethodDescriptor yX6_owed.desc).map (fun d => d.parameters.length) = some 2 := by decide +kernel
theorem dm_X6_rent : yX6_rent.cls = RX6 ∧ yX6_rent.cls ≠ "java/lang/invoke/MethodHandle" ∧ yX6_rent.cls ≠ "java/lang/invoke/VarHandle" ∧ (parseMethodDescriptor yX6_rent.desc).map (fun d => d.parameters.length) = some 2 := by decide +kernel
theorem dm_X6_rest : yX6_rest.cls = RX6 ∧ yX6_rest.cls ≠ "java/lang/invoke/MethodHandle" ∧ yX6_rest.cls ≠ "java/lang/invoke/VarHandle" ∧ (parseMethodDescriptor yX6_rest.desc).map (fun d => d.parameters.length) = some 0 := by decide +kernel
theorem dm_X6_river : yX6_river.cls = RX6 ∧ yX6_river.cls ≠ "java/lang/invoke/MethodHandle" ∧ yX6_river.cls ≠ "java/lang/invoke/VarHandle" ∧ (parseMethodDescriptor yX6_river.desc).map (fun d => d.parameters.length) = some 0 := by decide +kernel
theorem dm_X6_saw : yX6_saw.cls = RX6 ∧ yX6_saw.cls ≠ "java/lang/invoke/MethodHandle" ∧ yX6_saw.cls ≠ "java/lang/invoke/VarHandle" ∧ (parseMethodDescriptor yX6_saw.desc).map (fun d => d.parameters.length) = some 3 := by decide +kernel
theorem dm_X6_slide : yX6_slide.cls = RX6 ∧ yX6_slide.cls ≠ "java/lang/invoke/MethodHandle" ∧ yX6_slide.cls ≠ "java/lang/invoke/VarHandle" ∧ (parseMethodDescriptor yX6_slide.desc).map (fun d => d.parameters.length) = some 1 := by decide +kernel
theorem dm_X6_sooner : yX6_sooner.cls = RX6 ∧ yX6_sooner.cls ≠ "java/lang/invoke/MethodHandle" ∧ yX6_sooner.cls ≠ "java/lang/invoke/VarHandle" ∧ (parseMethodDescriptor yX6_sooner.desc).map (fun d => d.parameters.length) = some 1 := by decide +kernel
theorem dm_X6_standings : yX6_standings.cls = RX6 ∧ yX6_standings.cls ≠ "java/lang/invoke/MethodHandle" ∧ yX6_standings.cls ≠ "java/lang/invoke/VarHandle" ∧ (parseMethodDescriptor yX6_standings.desc).map (fun d => d.parameters.length) = some 0 := by decide +kernel
theorem dm_X6_thing : yX6_thing.cls = RX6 ∧ yX6_thing.cls ≠ "java/lang/invoke/MethodHandle" ∧ yX6_thing.cls ≠ "java/lang/invoke/VarHandle" ∧ (parseMethodDescriptor yX6_thing.desc).map (fun d => d.parameters.length) = some 2 := by decide +kernel
theorem dm_X6_trace : yX6_trace.cls = RX6 ∧ yX6_trace.cls ≠ "java/lang/invoke/MethodHandle" ∧ yX6_trace.cls ≠ "java/lang/invoke/VarHandle" ∧ (parseMethodDescriptor yX6_trace.desc).map (fun d => d.parameters.length) = some 0 := by decide +kernel
theorem dm_X6_type : yX6_type.cls = RX6 ∧ yX6_type.cls ≠ "java/lang/invoke/MethodHandle" ∧ yX6_type.cls ≠ "java/lang/invoke/VarHandle" ∧ (parseMethodDescriptor yX6_type.desc).map (fun d => d.parameters.length) = some 2 := by decide +kernel
theorem dm_X6_undo : yX6_undo.cls = RX6 ∧ yX6_undo.cls ≠ "java/lang/invoke/MethodHandle" ∧ yX6_undo.cls ≠ "java/lang/invoke/VarHandle" ∧ (parseMethodDescriptor yX6_undo.desc).map (fun d => d.parameters.length) = some 0 := by decide +kernel
theorem bc_31 : (Int8.ofInt (31)).toInt32 = (31) := by decide
set_option maxRecDepth 100000 in
set_option maxHeartbeats 8000000 in
theorem law_loop {p : Program} {e : Env} {s : State} {m : MethodId} {below : List Frame} {meth : Method} {c : Code} {b L : Nat} {xs : Nat → Int32} (hL : L ≤ 2048) (C0 : lw_At p s m meth c b L xs) (V : SV) (hSP : SP V (fun q => s.heap.size ≤ q) s s.heap) : ∀ (fu i : Nat) (E : EN) (C : Cx E (lawY p e s m below meth c b) code 4 RL wsL_law room_1) (hM : EM E) (g : Nat → Int32) (h : Nat → Int64) (T : Nat → Nat → Int32) (Lg : Nat → Nat → Int64), 4 * i ≤ L → L < 4 * i + 4 * fu → Sa g h T → J E (lawY p e s m below meth c b) (eN E) 68 6308 (wS E g h T Lg) 18 [some (.ref b), some (.ref (eA E 0)), some (.ref (eA E 48)), some (.int (nI (4 * i)))] [] := by
  obtain ⟨hx, hb, hr, hml, hown, hts, hXs, hbl, hlocks, hgv⟩ := C0
  intro fu
  induction fu with
  | zero =>
    intro i E C hM g h T Lg hi hfu hSa
    omega
  | succ fu ih =>
    intro i E C hM g h T Lg hi hfu hSa
    have hfin := hSa
    obtain ⟨mm, ρ, pr, ld, fr, bg, n, bt, μ, sn, im, hX, hM6, hO, hh⟩ := hSa
    have hmu := hX.2.2.2.1
    have hok := hO.2.2.2.1
    have hs := hok.1
    have hm := hX.1.1
    have hld : ld < 1000 := by have := hO.1.1; omega
    have hio := hO.2.2.2.2.2
    have h128 := p7 hm
    have hR4 : ∀ t, t < mm → ρ 3 t < 128 := fun t ht => by have := (hX.1.2.2.2.2.2.2.2.2 t ht).2.2.2.2; omega
    refine J_iload_3 C dL_law_18 ?_
    refine J_aload_0 C dL_law_19 ?_
    refine J_slen C hXs hbl (Nat.not_le.mpr hbl) dL_law_20 ?_
    refine J_iconst C (4) dL_law_21 ic_4 ?_
    refine J_isub C dL_law_22 ?_
    refine J_icmp_gt C 752 dL_law_23 (by decide) (fun hc23 => ?_) (fun hc23 => ?_)
    · skip
      refine J_iconst C (1) dL_law_752 ic_1 ?_
      exact J_lret hx hb hr hlocks dL_law_753 (by decide) (by decide)
    · skip
      have h4 := lawIn hL hi hc23
      refine J_aload_0 C dL_law_26 ?_
      refine J_iload_3 C dL_law_27 ?_
      refine J_sld C hXs hbl (Nat.not_le.mpr hbl) (4 * i) rfl (by omega) (by omega) dL_law_28 ?_
      refine J_bipush C (31) dL_law_29 bc_31 ?_
      refine J_iand C dL_law_31 ?_
      obtain ⟨j, hj, hje⟩ := pk_andE (xs (4 * i)) (m := 31) 5 (by decide)
      refine J_top (y := nI j) hje ?_
      rcases (show j = 0 ∨ j = 1 ∨ j = 2 ∨ j = 3 ∨ j = 4 ∨ j = 5 ∨ j = 6 ∨ j = 7 ∨ j = 8 ∨ j = 9 ∨ j = 10 ∨ j = 11 ∨ j = 12 ∨ j = 13 ∨ j = 14 ∨ j = 15 ∨ j = 16 ∨ j = 17 ∨ j = 18 ∨ j = 19 ∨ j = 20 ∨ j = 21 ∨ j = 22 ∨ j = 23 ∨ j = 24 ∨ (24 < j) by omega) with hsw32 | hsw32 | hsw32 | hsw32 | hsw32 | hsw32 | hsw32 | hsw32 | hsw32 | hsw32 | hsw32 | hsw32 | hsw32 | hsw32 | hsw32 | hsw32 | hsw32 | hsw32 | hsw32 | hsw32 | hsw32 | hsw32 | hsw32 | hsw32 | hsw32 | hsw32
      · skip
        rw [hsw32]
        refine J_tin C 148 dL_law_32 (by decide) (by decide) rfl (by decide) ?_
        refine J_aload_1 C dL_law_148 ?_
        refine J_aload_0 C dL_law_149 ?_
        refine J_iload_3 C dL_law_150 ?_
        refine J_iconst C (1) dL_law_151 ic_1 ?_
        refine J_iadd C dL_law_152 ?_
        refine J_sld C hXs hbl (Nat.not_le.mpr hbl) (4 * i + 1) (nI_1 _) (by omega) (by omega) dL_law_153 ?_
        refine J_i2l C dL_law_154 ?_
        refine J_bipush C (32) dL_law_155 bc_32 ?_
        refine J_lshl C dL_law_157 ?_
        refine J_aload_0 C dL_law_158 ?_
        refine J_iload_3 C dL_law_159 ?_
        refine J_iconst C (2) dL_law_160 ic_2 ?_
        refine J_iadd C dL_law_161 ?_
        refine J_sld C hXs hbl (Nat.not_le.mpr hbl) (4 * i + 2) (a_2 _) (by omega) (by omega) dL_law_162 ?_
        refine J_i2l C dL_law_163 ?_
        refine J_ldc2 C kcL_law_13 dL_law_164 ?_
        refine J_land C dL_law_167 ?_
        refine J_lor C dL_law_168 ?_
        refine J_aload_0 C dL_law_169 ?_
        refine J_iload_3 C dL_law_170 ?_
        refine J_iconst C (3) dL_law_171 ic_3 ?_
        refine J_iadd C dL_law_172 ?_
        refine J_sld C hXs hbl (Nat.not_le.mpr hbl) (4 * i + 3) (a_3 _) (by omega) (by omega) dL_law_173 ?_
        refine G_vti C dL_law_174 (c_X5_type E hM g h T Lg _ _ n hO.2.2.1.1 hX.2.2.1.1) gL_law_X5_type rfl dm_X5_type rfl rfl (hM.1 _ (by decide)) rfl rfl (Nat.le_of_ble_eq_true rfl) (rmOK_b rfl) (fun r174 g174 h174 T174 L174 hp174 => ?_)
        obtain ⟨er1, eh1, el1⟩ := hp174
        have hM1 := hM6.keep (fun k hk => er1.fr.1 k (by omega)) (fun c hc => er1.fr.2 c (by omega))
        refine J_aload_2 C dL_law_177 ?_
        refine J_aload_0 C dL_law_178 ?_
        refine J_iload_3 C dL_law_179 ?_
        refine J_iconst C (1) dL_law_180 ic_1 ?_
        refine J_iadd C dL_law_181 ?_
        refine J_sld C hXs hbl (Nat.not_le.mpr hbl) (4 * i + 1) (nI_1 _) (by omega) (by omega) dL_law_182 ?_
        refine J_i2l C dL_law_183 ?_
        refine J_bipush C (32) dL_law_184 bc_32 ?_
        refine J_lshl C dL_law_186 ?_
        refine J_aload_0 C dL_law_187 ?_
        refine J_iload_3 C dL_law_188 ?_
        refine J_iconst C (2) dL_law_189 ic_2 ?_
        refine J_iadd C dL_law_190 ?_
        refine J_sld C hXs hbl (Nat.not_le.mpr hbl) (4 * i + 2) (a_2 _) (by omega) (by omega) dL_law_191 ?_
        refine J_i2l C dL_law_192 ?_
        refine J_ldc2 C kcL_law_13 dL_law_193 ?_
        refine J_land C dL_law_196 ?_
        refine J_lor C dL_law_197 ?_
        refine J_aload_0 C dL_law_198 ?_
        refine J_iload_3 C dL_law_199 ?_
        refine J_iconst C (3) dL_law_200 ic_3 ?_
        refine J_iadd C dL_law_201 ?_
        refine J_sld C hXs hbl (Nat.not_le.mpr hbl) (4 * i + 3) (a_3 _) (by omega) (by omega) dL_law_202 ?_
        refine G_vti C dL_law_203 (c_X6_type E hM g174 h174 T174 L174 _ _ n hO.2.2.1.1 hM1.2.2.1.1) gL_law_X6_type rfl dm_X6_type rfl rfl (hM.1 _ (by decide)) rfl rfl (Nat.le_of_ble_eq_true rfl) (rmOK_b rfl) (fun r203 g203 h203 T203 L203 hp203 => ?_)
        obtain ⟨er2, eh2, el2⟩ := hp203
        obtain ⟨hreq, hsb⟩ := st_ty hX hM6 hO er1 er2
        have hfin : Sa g203 h203 T203 := Sa.of hsb (by rw [eh2, eh1]; exact hh)
        refine J_icmp_eq C 746 dL_law_206 (by decide) (fun hc206 => ?_) (fun hc => absurd hreq hc)
        refine J_iinc_3 C (4) dL_law_746 (by decide) trivial ic_4 ?_
        refine J_goto C 18 dL_law_749 (by decide) ?_
        rw [show nI (4 * i) + 4 = nI (4 * (i + 1)) from (a_4 _).trans (congrArg nI (by omega))]
        exact ih (i + 1) _ C hM _ _ _ _ (by omega) (by omega) hfin
      · skip
        rw [hsw32]
        refine J_tin C 211 dL_law_32 (by decide) (by decide) rfl (by decide) ?_
        refine J_aload_1 C dL_law_211 ?_
        refine G_vti C dL_law_212 (c_X5_clear E hM g h T Lg) gL_law_X5_clear rfl dm_X5_clear rfl rfl (hM.1 _ (by decide)) rfl rfl (Nat.le_of_ble_eq_true rfl) (rmOK_b rfl) (fun r212 g212 h212 T212 L212 hp212 => ?_)
        obtain ⟨er1, eg1, eh1, eT1, el1⟩ := hp212
        refine J_aload_2 C dL_law_215 ?_
        refine G_vti C dL_law_216 (c_X6_clear E hM g212 h212 T212 L212) gL_law_X6_clear rfl dm_X6_clear rfl rfl (hM.1 _ (by decide)) rfl rfl (Nat.le_of_ble_eq_true rfl) (rmOK_b rfl) (fun r216 g216 h216 T216 L216 hp216 => ?_)
        obtain ⟨er2, eg2, eh2, eT2, el2⟩ := hp216
        have hreq : r212 = r216 := by rw [er1, er2, eg1, show g 1 = nI n from hX.2.2.1.1, show upd g 1 0 4801 = nI n from (by simp [upd]; exact hM6.2.2.1.1)]
        have hfin : Sa g216 h216 T216 := by
          rw [eg2, eT2, eg1, eT1]
          exact Sa.of (st_cl (g1 := g) (g2 := g) (T1 := T) (T2 := T) hX hM6 hO) (by rw [eh2, eh1]; exact hh)
        refine J_icmp_eq C 746 dL_law_219 (by decide) (fun hc219 => ?_) (fun hc => absurd hreq hc)
        refine J_iinc_3 C (4) dL_law_746 (by decide) trivial ic_4 ?_
        refine J_goto C 18 dL_law_749 (by decide) ?_
        rw [show nI (4 * i) + 4 = nI (4 * (i + 1)) from (a_4 _).trans (congrArg nI (by omega))]
        exact ih (i + 1) _ C hM _ _ _ _ (by omega) (by omega) hfin
      · skip
        rw [hsw32]
        refine J_tin C 224 dL_law_32 (by decide) (by decide) rfl (by decide) ?_
        refine J_aload_1 C dL_law_224 ?_
        refine J_cvSi C hSP dL_law_225 (c_X5_river E hM V g h T Lg n bt hO.2.2.1.1 (hX.b (g2 := g) (T2 := T) hO) hX.2.2.1.1) gL_law_X5_river rfl dm_X5_river (Rcv.obj (ci := 5) C rfl (C.lt (hM.1 0 (by decide))) (wS_obj (k := 0) (ci := 5) rfl (hM.1 0 (by decide)))) (Nat.le_refl _) rfl rfl (Nat.le_of_ble_eq_true rfl) (rmOK_b rfl) (fun r1 w1 hw1 => ?_)
        rcases hw1 with ⟨g1, T1, rfl, hFA, q, hq, er1⟩ | ⟨g1, T1, hw, s', k', hrd, hk', er1, hsO, hRv, q1, q2, q3, q4, q5, q6, q7, q8, q9, q10, q11, q12, q13, f1, f2⟩
        · have hX1 := hX.fA hFA
          have hM1 := hM6.keep (g2 := g1) (T2 := T1) (fun k hk => hFA.1 k (by omega) (by omega)) (fun c hc => hFA.2 c (by omega) (by omega))
          refine J_aload_2 C dL_law_228 ?_
          refine G_vti C dL_law_229 (c_X6_river E hM g1 h T1 Lg n bt (hM1.b (g2 := g) (T2 := T) hO)) gL_law_X6_river rfl dm_X6_river rfl rfl (hM.1 48 (by decide)) rfl rfl (Nat.le_of_ble_eq_true rfl) (rmOK_b rfl) (fun r2 g2 h2 T2 L2 hp2 => ?_)
          obtain ⟨hres, el2⟩ := hp2
          rcases hres with ⟨s2, k2, hrd, _⟩ | ⟨q2, hq2, er2, hFQ⟩
          · rw [hq] at hrd
            cases hrd
          · have hqq : q = q2 := by
              rw [hq] at hq2
              cases hq2
              rfl
            subst hqq
            refine J_icmp_eq C 746 dL_law_232 (by decide) (fun _ => ?_) (fun hc => absurd (er1.trans er2.symm) hc)
            have hfin : Sa g2 h2 T2 := Sa.of ⟨mm, ρ, pr, ld, fr, bg, n, bt, μ, sn, im, hX1.keep (fun k hk => hFQ.1 k (by omega)) (fun c hc => hFQ.2.2 c (by omega)), hM1.fQ hFQ, hO⟩ (by rw [hFQ.2.1 10 (by decide), hFQ.2.1 4822 (by decide)]; exact hh)
            refine J_iinc_3 C (4) dL_law_746 (by decide) trivial ic_4 ?_
            refine J_goto C 18 dL_law_749 (by decide) ?_
            rw [show nI (4 * i) + 4 = nI (4 * (i + 1)) from (a_4 _).trans (congrArg nI (by omega))]
            exact ih (i + 1) _ C hM _ _ _ _ (by omega) (by omega) hfin
        · have hN : 20 ≤ eN E := by have := hM.2 67 (hM.1 67 (by decide)); omega
          refine J_sw hN ?_
          rw [hw]
          have C := C.sw
          have hM := hM.sw
          have hMt : MtX g1 T1 n bt := ⟨hO.2.2.1.1, by rw [f1 4801 (by decide)]; exact hM6.2.2.1.1, fun i hi => ⟨by rw [f2 49 (by decide)]; exact hM6.2.2.1.2 i hi, hO.2.2.1.2 i hi⟩⟩
          show J (eSw E) (lawY p e s m below meth c b) (eN (eSw E)) _ _ _ _ [some (.ref b), some (.ref (eA (eSw E) 0)), some (.ref (eA (eSw E) 48)), some (.int (nI (4 * i)))] _
          refine J_aload_2 C dL_law_228 ?_
          refine G_vti C dL_law_229 (c_X6_river (eSw E) hM g1 h T1 Lg n bt hMt) gL_law_X6_river rfl dm_X6_river rfl rfl (hM.1 48 (by decide)) rfl rfl (Nat.le_of_ble_eq_true rfl) (rmOK_b rfl) (fun r2 g2 h2 T2 L2 hp2 => ?_)
          obtain ⟨hres, el2⟩ := hp2
          rcases hres with ⟨s2, k2, hrd2, hk2, er2, hsO2, hy, hFY⟩ | ⟨q2, hq2, _⟩
          · have he : s' = s2 ∧ k' = k2 := by
              rw [hrd] at hrd2
              cases hrd2
              exact ⟨rfl, rfl⟩
            obtain ⟨rfl, rfl⟩ := he
            refine J_icmp_eq C 746 dL_law_232 (by decide) (fun _ => ?_) (fun hc => absurd (er1.trans er2.symm) hc)
            have hfin : Sa g2 h2 T2 := Sa.of (st_ri hX hM6 hO hsO hRv q1 q2 q3 q4 q5 q6 q7 q8 q9 q10 q11 q12 q13 f1 hy hFY) (by rw [hFY.2.1 10 (by decide), hFY.2.1 4822 (by decide)]; exact hh)
            refine J_iinc_3 C (4) dL_law_746 (by decide) trivial ic_4 ?_
            refine J_goto C 18 dL_law_749 (by decide) ?_
            rw [show nI (4 * i) + 4 = nI (4 * (i + 1)) from (a_4 _).trans (congrArg nI (by omega))]
            exact ih (i + 1) _ C hM _ _ _ _ (by omega) (by omega) hfin
          · rw [hrd] at hq2
            cases hq2
      · skip
        rw [hsw32]
        refine J_tin C 237 dL_law_32 (by decide) (by decide) rfl (by decide) ?_
        refine J_aload_1 C dL_law_237 ?_
        refine J_aload_0 C dL_law_238 ?_
        refine J_iload_3 C dL_law_239 ?_
        refine J_iconst C (1) dL_law_240 ic_1 ?_
        refine J_iadd C dL_law_241 ?_
        refine J_sld C hXs hbl (Nat.not_le.mpr hbl) (4 * i + 1) (nI_1 _) (by omega) (by omega) dL_law_242 ?_
        refine J_aload_0 C dL_law_243 ?_
        refine J_iload_3 C dL_law_244 ?_
        refine J_iconst C (2) dL_law_245 ic_2 ?_
        refine J_iadd C dL_law_246 ?_
        refine J_sld C hXs hbl (Nat.not_le.mpr hbl) (4 * i + 2) (a_2 _) (by omega) (by omega) dL_law_247 ?_
        refine G_vpi C dL_law_248 (c_X5_thing E hM g h T Lg mm ρ hX.1 μ.1 hs hmu.1 _ _) gL_law_X5_thing rfl dm_X5_thing rfl rfl (hM.1 _ (by decide)) rfl rfl (Nat.le_of_ble_eq_true rfl) (rmOK_b rfl) (fun r248 hr248 => ?_)
        skip
        refine J_aload_2 C dL_law_251 ?_
        refine J_aload_0 C dL_law_252 ?_
        refine J_iload_3 C dL_law_253 ?_
        refine J_iconst C (1) dL_law_254 ic_1 ?_
        refine J_iadd C dL_law_255 ?_
        refine J_sld C hXs hbl (Nat.not_le.mpr hbl) (4 * i + 1) (nI_1 _) (by omega) (by omega) dL_law_256 ?_
        refine J_aload_0 C dL_law_257 ?_
        refine J_iload_3 C dL_law_258 ?_
        refine J_iconst C (2) dL_law_259 ic_2 ?_
        refine J_iadd C dL_law_260 ?_
        refine J_sld C hXs hbl (Nat.not_le.mpr hbl) (4 * i + 2) (a_2 _) (by omega) (by omega) dL_law_261 ?_
        refine G_vpi C dL_law_262 (c_X6_thing E hM g h T Lg mm ρ hM6.1 μ.1 hs hM6.2.2.2.1.1 _ _) gL_law_X6_thing rfl dm_X6_thing rfl rfl (hM.1 _ (by decide)) rfl rfl (Nat.le_of_ble_eq_true rfl) (rmOK_b rfl) (fun r262 hr262 => ?_)
        have hreq := ThR.uni hm hr248 hr262
        refine J_icmp_eq C 746 dL_law_265 (by decide) (fun hc265 => ?_) (fun hc => absurd hreq hc)
        refine J_iinc_3 C (4) dL_law_746 (by decide) trivial ic_4 ?_
        refine J_goto C 18 dL_law_749 (by decide) ?_
        rw [show nI (4 * i) + 4 = nI (4 * (i + 1)) from (a_4 _).trans (congrArg nI (by omega))]
        exact ih (i + 1) _ C hM _ _ _ _ (by omega) (by omega) hfin
      · skip
        rw [hsw32]
        refine J_tin C 270 dL_law_32 (by decide) (by decide) rfl (by decide) ?_
        refine J_aload_1 C dL_law_270 ?_
        refine J_aload_0 C dL_law_271 ?_
        refine J_iload_3 C dL_law_272 ?_
        refine J_iconst C (1) dL_law_273 ic_1 ?_
        refine J_iadd C dL_law_274 ?_
        refine J_sld C hXs hbl (Nat.not_le.mpr hbl) (4 * i + 1) (nI_1 _) (by omega) (by omega) dL_law_275 ?_
        refine G_vpi C dL_law_276 (c_X5_now E hM g h T Lg mm ρ hX.1 μ.1 hs hmu.1 (nI ld) (nI μ.2.1) (nI μ.2.2.1) hX.2.1.2.2.1 hmu.2.1 hmu.2.2.1 _) gL_law_X5_now rfl dm_X5_now rfl rfl (hM.1 _ (by decide)) rfl rfl (Nat.le_of_ble_eq_true rfl) (rmOK_b rfl) (fun r276 hr276 => ?_)
        skip
        refine J_aload_2 C dL_law_279 ?_
        refine J_aload_0 C dL_law_280 ?_
        refine J_iload_3 C dL_law_281 ?_
        refine J_iconst C (1) dL_law_282 ic_1 ?_
        refine J_iadd C dL_law_283 ?_
        refine J_sld C hXs hbl (Nat.not_le.mpr hbl) (4 * i + 1) (nI_1 _) (by omega) (by omega) dL_law_284 ?_
        refine G_vpi C dL_law_285 (c_X6_now E hM g h T Lg mm ρ hM6.1 μ.1 hs hM6.2.2.2.1.1 (nI ld) (nI μ.2.1) (nI μ.2.2.1) hM6.2.1.2.2.1 hM6.2.2.2.1.2.1 hM6.2.2.2.1.2.2.1 _) gL_law_X6_now rfl dm_X6_now rfl rfl (hM.1 _ (by decide)) rfl rfl (Nat.le_of_ble_eq_true rfl) (rmOK_b rfl) (fun r285 hr285 => ?_)
        have hreq := hr276.trans hr285.symm
        refine J_icmp_eq C 746 dL_law_288 (by decide) (fun hc288 => ?_) (fun hc => absurd hreq hc)
        refine J_iinc_3 C (4) dL_law_746 (by decide) trivial ic_4 ?_
        refine J_goto C 18 dL_law_749 (by decide) ?_
        rw [show nI (4 * i) + 4 = nI (4 * (i + 1)) from (a_4 _).trans (congrArg nI (by omega))]
        exact ih (i + 1) _ C hM _ _ _ _ (by omega) (by omega) hfin
      · skip
        rw [hsw32]
        refine J_tin C 293 dL_law_32 (by decide) (by decide) rfl (by decide) ?_
        refine J_aload_1 C dL_law_293 ?_
        refine J_aload_0 C dL_law_294 ?_
        refine J_iload_3 C dL_law_295 ?_
        refine J_iconst C (1) dL_law_296 ic_1 ?_
        refine J_iadd C dL_law_297 ?_
        refine J_sld C hXs hbl (Nat.not_le.mpr hbl) (4 * i + 1) (nI_1 _) (by omega) (by omega) dL_law_298 ?_
        refine G_vti C dL_law_299 (c_X5_cross E hM g h T Lg mm ρ hX.1 μ hmu hok ld hld hX.2.1.2.2.1 _) gL_law_X5_cross rfl dm_X5_cross rfl rfl (hM.1 _ (by decide)) rfl rfl (Nat.le_of_ble_eq_true rfl) (rmOK_b rfl) (fun r299 g299 h299 T299 L299 hp299 => ?_)
        obtain ⟨⟨er1, hm1, hF1⟩, eh1, el1⟩ := hp299
        have hX1 := hX.mo hm1 hF1
        have hM1 := hM6.ofMo hF1
        refine J_aload_2 C dL_law_302 ?_
        refine J_aload_0 C dL_law_303 ?_
        refine J_iload_3 C dL_law_304 ?_
        refine J_iconst C (1) dL_law_305 ic_1 ?_
        refine J_iadd C dL_law_306 ?_
        refine J_sld C hXs hbl (Nat.not_le.mpr hbl) (4 * i + 1) (nI_1 _) (by omega) (by omega) dL_law_307 ?_
        refine G_vti C dL_law_308 (c_X6_cross E hM g299 h299 T299 L299 mm ρ hM1.1 μ hM1.2.2.2.1 hok ld hld hM1.2.1.2.2.1 _) gL_law_X6_cross rfl dm_X6_cross rfl rfl (hM.1 _ (by decide)) rfl rfl (Nat.le_of_ble_eq_true rfl) (rmOK_b rfl) (fun r308 g308 h308 T308 L308 hp308 => ?_)
        obtain ⟨⟨er2, hm2, hF2⟩, eh2, el2⟩ := hp308
        have hreq := er1.trans er2.symm
        have hfin : Sa g308 h308 T308 := Sa.of (st_mo hX hM6 hO (crossS_ok hm hok) hm1 hF1 hm2 hF2) (by rw [eh2, eh1]; exact hh)
        refine J_icmp_eq C 746 dL_law_311 (by decide) (fun hc311 => ?_) (fun hc => absurd hreq hc)
        refine J_iinc_3 C (4) dL_law_746 (by decide) trivial ic_4 ?_
        refine J_goto C 18 dL_law_749 (by decide) ?_
        rw [show nI (4 * i) + 4 = nI (4 * (i + 1)) from (a_4 _).trans (congrArg nI (by omega))]
        exact ih (i + 1) _ C hM _ _ _ _ (by omega) (by omega) hfin
      · skip
        rw [hsw32]
        refine J_tin C 316 dL_law_32 (by decide) (by decide) rfl (by decide) ?_
        refine J_aload_1 C dL_law_316 ?_
        refine G_vti C dL_law_317 (c_X5_rest E hM g h T Lg μ hmu hok) gL_law_X5_rest rfl dm_X5_rest rfl rfl (hM.1 _ (by decide)) rfl rfl (Nat.le_of_ble_eq_true rfl) (rmOK_b rfl) (fun r317 g317 h317 T317 L317 hp317 => ?_)
        obtain ⟨⟨er1, hm1, hF1⟩, eh1, el1⟩ := hp317
        have hX1 := hX.mo hm1 hF1
        have hM1 := hM6.ofMo hF1
        refine J_aload_2 C dL_law_320 ?_
        refine G_vti C dL_law_321 (c_X6_rest E hM g317 h317 T317 L317 μ hM1.2.2.2.1 hok) gL_law_X6_rest rfl dm_X6_rest rfl rfl (hM.1 _ (by decide)) rfl rfl (Nat.le_of_ble_eq_true rfl) (rmOK_b rfl) (fun r321 g321 h321 T321 L321 hp321 => ?_)
        obtain ⟨⟨er2, hm2, hF2⟩, eh2, el2⟩ := hp321
        have hreq := er1.trans er2.symm
        have hfin : Sa g321 h321 T321 := Sa.of (st_mo hX hM6 hO (restS_ok hok) hm1 hF1 hm2 hF2) (by rw [eh2, eh1]; exact hh)
        refine J_icmp_eq C 746 dL_law_324 (by decide) (fun hc324 => ?_) (fun hc => absurd hreq hc)
        refine J_iinc_3 C (4) dL_law_746 (by decide) trivial ic_4 ?_
        refine J_goto C 18 dL_law_749 (by decide) ?_
        rw [show nI (4 * i) + 4 = nI (4 * (i + 1)) from (a_4 _).trans (congrArg nI (by omega))]
        exact ih (i + 1) _ C hM _ _ _ _ (by omega) (by omega) hfin
      · skip
        rw [hsw32]
        refine J_tin C 329 dL_law_32 (by decide) (by decide) rfl (by decide) ?_
        obtain ⟨c2, hc2⟩ : ∃ c2, c2 = lcg μ.2.2.2.1 := ⟨_, rfl⟩
        obtain ⟨bb, hbb⟩ : ∃ bb : Bool, (drw c2 < nI fr ↔ bb = true) := ⟨decide (drw c2 < nI fr), decide_eq_true_iff.symm⟩
        refine J_aload_1 C dL_law_329 ?_
        refine G_vti C dL_law_330 (c_X5_night E hM g h T Lg μ hmu hok fr c2 hc2 bb hbb hX.2.1.2.2.2) gL_law_X5_night rfl dm_X5_night rfl rfl (hM.1 _ (by decide)) rfl rfl (Nat.le_of_ble_eq_true rfl) (rmOK_b rfl) (fun r330 g330 h330 T330 L330 hp330 => ?_)
        obtain ⟨⟨er1, hm1, hF1⟩, eh1, el1⟩ := hp330
        have hX1 := hX.mo hm1 hF1
        have hM1 := hM6.ofMo hF1
        refine J_aload_2 C dL_law_333 ?_
        refine G_vti C dL_law_334 (c_X6_night E hM g330 h330 T330 L330 μ hM1.2.2.2.1 hok fr c2 hc2 bb hbb hM1.2.1.2.2.2) gL_law_X6_night rfl dm_X6_night rfl rfl (hM.1 _ (by decide)) rfl rfl (Nat.le_of_ble_eq_true rfl) (rmOK_b rfl) (fun r334 g334 h334 T334 L334 hp334 => ?_)
        obtain ⟨⟨er2, hm2, hF2⟩, eh2, el2⟩ := hp334
        have hreq := er1.trans er2.symm
        have hfin : Sa g334 h334 T334 := Sa.of (st_mo hX hM6 hO (nightS_ok hok) hm1 hF1 hm2 hF2) (by rw [eh2, eh1]; exact hh)
        refine J_icmp_eq C 746 dL_law_337 (by decide) (fun hc337 => ?_) (fun hc => absurd hreq hc)
        refine J_iinc_3 C (4) dL_law_746 (by decide) trivial ic_4 ?_
        refine J_goto C 18 dL_law_749 (by decide) ?_
        rw [show nI (4 * i) + 4 = nI (4 * (i + 1)) from (a_4 _).trans (congrArg nI (by omega))]
        exact ih (i + 1) _ C hM _ _ _ _ (by omega) (by omega) hfin
      · skip
        rw [hsw32]
        refine J_tin C 342 dL_law_32 (by decide) (by decide) rfl (by decide) ?_
        refine J_aload_1 C dL_law_342 ?_
        refine J_aload_0 C dL_law_343 ?_
        refine J_iload_3 C dL_law_344 ?_
        refine J_iconst C (1) dL_law_345 ic_1 ?_
        refine J_iadd C dL_law_346 ?_
        refine J_sld C hXs hbl (Nat.not_le.mpr hbl) (4 * i + 1) (nI_1 _) (by omega) (by omega) dL_law_347 ?_
        refine G_vti C dL_law_348 (c_X5_slide E hM g h T Lg mm ρ hX.1 μ hmu hok _) gL_law_X5_slide rfl dm_X5_slide rfl rfl (hM.1 _ (by decide)) rfl rfl (Nat.le_of_ble_eq_true rfl) (rmOK_b rfl) (fun r348 g348 h348 T348 L348 hp348 => ?_)
        obtain ⟨⟨er1, hm1, hF1⟩, eh1, el1⟩ := hp348
        have hX1 := hX.mo hm1 hF1
        have hM1 := hM6.ofMo hF1
        refine J_aload_2 C dL_law_351 ?_
        refine J_aload_0 C dL_law_352 ?_
        refine J_iload_3 C dL_law_353 ?_
        refine J_iconst C (1) dL_law_354 ic_1 ?_
        refine J_iadd C dL_law_355 ?_
        refine J_sld C hXs hbl (Nat.not_le.mpr hbl) (4 * i + 1) (nI_1 _) (by omega) (by omega) dL_law_356 ?_
        refine G_vti C dL_law_357 (c_X6_slide E hM g348 h348 T348 L348 mm ρ hM1.1 μ hM1.2.2.2.1 hok _) gL_law_X6_slide rfl dm_X6_slide rfl rfl (hM.1 _ (by decide)) rfl rfl (Nat.le_of_ble_eq_true rfl) (rmOK_b rfl) (fun r357 g357 h357 T357 L357 hp357 => ?_)
        obtain ⟨⟨er2, hm2, hF2⟩, eh2, el2⟩ := hp357
        have hreq := er1.trans er2.symm
        have hfin : Sa g357 h357 T357 := Sa.of (st_mo hX hM6 hO (slideS_ok hm hok) hm1 hF1 hm2 hF2) (by rw [eh2, eh1]; exact hh)
        refine J_icmp_eq C 746 dL_law_360 (by decide) (fun hc360 => ?_) (fun hc => absurd hreq hc)
        refine J_iinc_3 C (4) dL_law_746 (by decide) trivial ic_4 ?_
        refine J_goto C 18 dL_law_749 (by decide) ?_
        rw [show nI (4 * i) + 4 = nI (4 * (i + 1)) from (a_4 _).trans (congrArg nI (by omega))]
        exact ih (i + 1) _ C hM _ _ _ _ (by omega) (by omega) hfin
      · skip
        rw [hsw32]
        refine J_tin C 365 dL_law_32 (by decide) (by decide) rfl (by decide) ?_
        refine J_aload_1 C dL_law_365 ?_
        refine G_vti C dL_law_366 (c_X5_undo E hM g h T Lg μ hmu hok) gL_law_X5_undo rfl dm_X5_undo rfl rfl (hM.1 _ (by decide)) rfl rfl (Nat.le_of_ble_eq_true rfl) (rmOK_b rfl) (fun r366 g366 h366 T366 L366 hp366 => ?_)
        obtain ⟨⟨er1, hm1, hF1⟩, eh1, el1⟩ := hp366
        have hX1 := hX.mo hm1 hF1
        have hM1 := hM6.ofMo hF1
        refine J_aload_2 C dL_law_369 ?_
        refine G_vti C dL_law_370 (c_X6_undo E hM g366 h366 T366 L366 μ hM1.2.2.2.1 hok) gL_law_X6_undo rfl dm_X6_undo rfl rfl (hM.1 _ (by decide)) rfl rfl (Nat.le_of_ble_eq_true rfl) (rmOK_b rfl) (fun r370 g370 h370 T370 L370 hp370 => ?_)
        obtain ⟨⟨er2, hm2, hF2⟩, eh2, el2⟩ := hp370
        have hreq := er1.trans er2.symm
        have hfin : Sa g370 h370 T370 := Sa.of (st_mo hX hM6 hO (undoS_ok hok) hm1 hF1 hm2 hF2) (by rw [eh2, eh1]; exact hh)
        refine J_icmp_eq C 746 dL_law_373 (by decide) (fun hc373 => ?_) (fun hc => absurd hreq hc)
        refine J_iinc_3 C (4) dL_law_746 (by decide) trivial ic_4 ?_
        refine J_goto C 18 dL_law_749 (by decide) ?_
        rw [show nI (4 * i) + 4 = nI (4 * (i + 1)) from (a_4 _).trans (congrArg nI (by omega))]
        exact ih (i + 1) _ C hM _ _ _ _ (by omega) (by omega) hfin
      · skip
        rw [hsw32]
        refine J_tin C 378 dL_law_32 (by decide) (by decide) rfl (by decide) ?_
        refine J_aload_1 C dL_law_378 ?_
        refine J_aload_0 C dL_law_379 ?_
        refine J_iload_3 C dL_law_380 ?_
        refine J_iconst C (1) dL_law_381 ic_1 ?_
        refine J_iadd C dL_law_382 ?_
        refine J_sld C hXs hbl (Nat.not_le.mpr hbl) (4 * i + 1) (nI_1 _) (by omega) (by omega) dL_law_383 ?_
        refine G_vti C dL_law_384 (c_X5_lot E hM g h T Lg _) gL_law_X5_lot rfl dm_X5_lot rfl rfl (hM.1 _ (by decide)) rfl rfl (Nat.le_of_ble_eq_true rfl) (rmOK_b rfl) (fun r384 g384 h384 T384 L384 hp384 => ?_)
        obtain ⟨er1, eg1, eh1, eT1, el1⟩ := hp384
        refine J_aload_2 C dL_law_387 ?_
        refine J_aload_0 C dL_law_388 ?_
        refine J_iload_3 C dL_law_389 ?_
        refine J_iconst C (1) dL_law_390 ic_1 ?_
        refine J_iadd C dL_law_391 ?_
        refine J_sld C hXs hbl (Nat.not_le.mpr hbl) (4 * i + 1) (nI_1 _) (by omega) (by omega) dL_law_392 ?_
        refine G_vti C dL_law_393 (c_X6_lot E hM g384 h384 T384 L384 _) gL_law_X6_lot rfl dm_X6_lot rfl rfl (hM.1 _ (by decide)) rfl rfl (Nat.le_of_ble_eq_true rfl) (rmOK_b rfl) (fun r393 g393 h393 T393 L393 hp393 => ?_)
        obtain ⟨er2, eg2, eh2, eT2, el2⟩ := hp393
        have hreq : r384 = r393 := by rw [er1, er2, eg1, show g 2003 = μ.2.2.2.1 from hmu.2.2.2.1, show upd g 2003 _ 4814 = μ.2.2.2.1 from (by simp [upd]; exact hM6.2.2.2.1.2.2.2.1)]
        have hfin : Sa g393 h393 T393 := by
          rw [eg2, eT2, eg1, eT1]
          exact Sa.of (st_lo (g1 := g) (g2 := g) (T1 := T) (T2 := T) hX hM6 hO) (by rw [eh2, eh1]; exact hh)
        refine J_icmp_eq C 746 dL_law_396 (by decide) (fun hc396 => ?_) (fun hc => absurd hreq hc)
        refine J_iinc_3 C (4) dL_law_746 (by decide) trivial ic_4 ?_
        refine J_goto C 18 dL_law_749 (by decide) ?_
        rw [show nI (4 * i) + 4 = nI (4 * (i + 1)) from (a_4 _).trans (congrArg nI (by omega))]
        exact ih (i + 1) _ C hM _ _ _ _ (by omega) (by omega) hfin
      · skip
        rw [hsw32]
        refine J_tin C 401 dL_law_32 (by decide) (by decide) rfl (by decide) ?_
        refine J_aload_1 C dL_law_401 ?_
        refine J_aload_0 C dL_law_402 ?_
        refine J_iload_3 C dL_law_403 ?_
        refine J_iconst C (1) dL_law_404 ic_1 ?_
        refine J_iadd C dL_law_405 ?_
        refine J_sld C hXs hbl (Nat.not_le.mpr hbl) (4 * i + 1) (nI_1 _) (by omega) (by omega) dL_law_406 ?_
        refine G_vti C dL_law_407 (c_X5_done E hM g h T Lg mm ρ hX.1 μ.1 ld hs hld hmu.1 hX.2.1.2.2.1 _) gL_law_X5_done rfl dm_X5_done rfl rfl (hM.1 _ (by decide)) rfl rfl (Nat.le_of_ble_eq_true rfl) (rmOK_b rfl) (fun r407 g407 h407 T407 L407 hp407 => ?_)
        obtain ⟨⟨er1, hF1⟩, eh1, el1⟩ := hp407
        have hM1 := hM6.ofPl hF1
        refine J_aload_2 C dL_law_410 ?_
        refine J_aload_0 C dL_law_411 ?_
        refine J_iload_3 C dL_law_412 ?_
        refine J_iconst C (1) dL_law_413 ic_1 ?_
        refine J_iadd C dL_law_414 ?_
        refine J_sld C hXs hbl (Nat.not_le.mpr hbl) (4 * i + 1) (nI_1 _) (by omega) (by omega) dL_law_415 ?_
        refine G_vti C dL_law_416 (c_X6_done E hM g407 h407 T407 L407 mm ρ hM1.1 μ.1 ld hs hld hM1.2.2.2.1.1 hM1.2.1.2.2.1 _) gL_law_X6_done rfl dm_X6_done rfl rfl (hM.1 _ (by decide)) rfl rfl (Nat.le_of_ble_eq_true rfl) (rmOK_b rfl) (fun r416 g416 h416 T416 L416 hp416 => ?_)
        obtain ⟨⟨er2, hF2⟩, eh2, el2⟩ := hp416
        have hreq := DnR.uni er1 er2
        have hfin : Sa g416 h416 T416 := Sa.of (st_pl hX hM6 hO hF1 hF2) (by rw [eh2, eh1]; exact hh)
        refine J_icmp_eq C 746 dL_law_419 (by decide) (fun hc419 => ?_) (fun hc => absurd hreq hc)
        refine J_iinc_3 C (4) dL_law_746 (by decide) trivial ic_4 ?_
        refine J_goto C 18 dL_law_749 (by decide) ?_
        rw [show nI (4 * i) + 4 = nI (4 * (i + 1)) from (a_4 _).trans (congrArg nI (by omega))]
        exact ih (i + 1) _ C hM _ _ _ _ (by omega) (by omega) hfin
      · skip
        rw [hsw32]
        refine J_tin C 424 dL_law_32 (by decide) (by decide) rfl (by decide) ?_
        refine J_aload_1 C dL_law_424 ?_
        refine J_aload_0 C dL_law_425 ?_
        refine J_iload_3 C dL_law_426 ?_
        refine J_iconst C (1) dL_law_427 ic_1 ?_
        refine J_iadd C dL_law_428 ?_
        refine J_sld C hXs hbl (Nat.not_le.mpr hbl) (4 * i + 1) (nI_1 _) (by omega) (by omega) dL_law_429 ?_
        refine J_aload_0 C dL_law_430 ?_
        refine J_iload_3 C dL_law_431 ?_
        refine J_iconst C (2) dL_law_432 ic_2 ?_
        refine J_iadd C dL_law_433 ?_
        refine J_sld C hXs hbl (Nat.not_le.mpr hbl) (4 * i + 2) (a_2 _) (by omega) (by omega) dL_law_434 ?_
        refine G_vti C dL_law_435 (c_X5_rent E hM g h T Lg mm ρ hX.1 μ.1 ld hs hld hmu.1 hX.2.1.2.2.1 _ _) gL_law_X5_rent rfl dm_X5_rent rfl rfl (hM.1 _ (by decide)) rfl rfl (Nat.le_of_ble_eq_true rfl) (rmOK_b rfl) (fun r435 g435 h435 T435 L435 hp435 => ?_)
        obtain ⟨⟨er1, hF1⟩, eh1, el1⟩ := hp435
        have hM1 := hM6.ofPl hF1
        refine J_aload_2 C dL_law_438 ?_
        refine J_aload_0 C dL_law_439 ?_
        refine J_iload_3 C dL_law_440 ?_
        refine J_iconst C (1) dL_law_441 ic_1 ?_
        refine J_iadd C dL_law_442 ?_
        refine J_sld C hXs hbl (Nat.not_le.mpr hbl) (4 * i + 1) (nI_1 _) (by omega) (by omega) dL_law_443 ?_
        refine J_aload_0 C dL_law_444 ?_
        refine J_iload_3 C dL_law_445 ?_
        refine J_iconst C (2) dL_law_446 ic_2 ?_
        refine J_iadd C dL_law_447 ?_
        refine J_sld C hXs hbl (Nat.not_le.mpr hbl) (4 * i + 2) (a_2 _) (by omega) (by omega) dL_law_448 ?_
        refine G_vti C dL_law_449 (c_X6_rent E hM g435 h435 T435 L435 mm ρ hM1.1 μ.1 ld hs hld hM1.2.2.2.1.1 hM1.2.1.2.2.1 _ _) gL_law_X6_rent rfl dm_X6_rent rfl rfl (hM.1 _ (by decide)) rfl rfl (Nat.le_of_ble_eq_true rfl) (rmOK_b rfl) (fun r449 g449 h449 T449 L449 hp449 => ?_)
        obtain ⟨⟨er2, hF2⟩, eh2, el2⟩ := hp449
        have hreq := RnR.uni er1 er2
        have hfin : Sa g449 h449 T449 := Sa.of (st_pl hX hM6 hO hF1 hF2) (by rw [eh2, eh1]; exact hh)
        refine J_icmp_eq C 746 dL_law_452 (by decide) (fun hc452 => ?_) (fun hc => absurd hreq hc)
        refine J_iinc_3 C (4) dL_law_746 (by decide) trivial ic_4 ?_
        refine J_goto C 18 dL_law_749 (by decide) ?_
        rw [show nI (4 * i) + 4 = nI (4 * (i + 1)) from (a_4 _).trans (congrArg nI (by omega))]
        exact ih (i + 1) _ C hM _ _ _ _ (by omega) (by omega) hfin
      · skip
        rw [hsw32]
        refine J_tin C 457 dL_law_32 (by decide) (by decide) rfl (by decide) ?_
        refine J_aload_1 C dL_law_457 ?_
        refine G_vti C dL_law_458 (c_X5_least E hM g h T Lg mm ρ hX.1 μ.1 hs hmu.1) gL_law_X5_least rfl dm_X5_least rfl rfl (hM.1 _ (by decide)) rfl rfl (Nat.le_of_ble_eq_true rfl) (rmOK_b rfl) (fun r458 g458 h458 T458 L458 hp458 => ?_)
        obtain ⟨⟨er1, hF1⟩, eh1, el1⟩ := hp458
        have hM1 := hM6.ofPl hF1
        refine J_aload_2 C dL_law_461 ?_
        refine G_vti C dL_law_462 (c_X6_least E hM g458 h458 T458 L458 mm ρ hM1.1 μ.1 hs hM1.2.2.2.1.1) gL_law_X6_least rfl dm_X6_least rfl rfl (hM.1 _ (by decide)) rfl rfl (Nat.le_of_ble_eq_true rfl) (rmOK_b rfl) (fun r462 g462 h462 T462 L462 hp462 => ?_)
        obtain ⟨⟨er2, hF2⟩, eh2, el2⟩ := hp462
        have hreq := LsR.uni er1 er2
        have hfin : Sa g462 h462 T462 := Sa.of (st_pl hX hM6 hO hF1 hF2) (by rw [eh2, eh1]; exact hh)
        refine J_icmp_eq C 746 dL_law_465 (by decide) (fun hc465 => ?_) (fun hc => absurd hreq hc)
        refine J_iinc_3 C (4) dL_law_746 (by decide) trivial ic_4 ?_
        refine J_goto C 18 dL_law_749 (by decide) ?_
        rw [show nI (4 * i) + 4 = nI (4 * (i + 1)) from (a_4 _).trans (congrArg nI (by omega))]
        exact ih (i + 1) _ C hM _ _ _ _ (by omega) (by omega) hfin
      · skip
        rw [hsw32]
        refine J_tin C 470 dL_law_32 (by decide) (by decide) rfl (by decide) ?_
        refine J_aload_1 C dL_law_470 ?_
        refine J_aload_0 C dL_law_471 ?_
        refine J_iload_3 C dL_law_472 ?_
        refine J_iconst C (1) dL_law_473 ic_1 ?_
        refine J_iadd C dL_law_474 ?_
        refine J_sld C hXs hbl (Nat.not_le.mpr hbl) (4 * i + 1) (nI_1 _) (by omega) (by omega) dL_law_475 ?_
        refine G_vti C dL_law_476 (c_X5_sooner E hM g h T Lg mm ρ hX.1 μ.1 ld hs hld hmu.1 hX.2.1.2.2.1 _) gL_law_X5_sooner rfl dm_X5_sooner rfl rfl (hM.1 _ (by decide)) rfl rfl (Nat.le_of_ble_eq_true rfl) (rmOK_b rfl) (fun r476 g476 h476 T476 L476 hp476 => ?_)
        obtain ⟨⟨er1, hF1⟩, eh1, el1⟩ := hp476
        have hM1 := hM6.ofPl hF1
        refine J_aload_2 C dL_law_479 ?_
        refine J_aload_0 C dL_law_480 ?_
        refine J_iload_3 C dL_law_481 ?_
        refine J_iconst C (1) dL_law_482 ic_1 ?_
        refine J_iadd C dL_law_483 ?_
        refine J_sld C hXs hbl (Nat.not_le.mpr hbl) (4 * i + 1) (nI_1 _) (by omega) (by omega) dL_law_484 ?_
        refine G_vti C dL_law_485 (c_X6_sooner E hM g476 h476 T476 L476 mm ρ hM1.1 hO.2.1.1 hO.2.1.2 μ.1 ld hs (by have := hO.1.1; omega) hM1.2.2.2.1.1 hM1.2.1.2.2.1 _) gL_law_X6_sooner rfl dm_X6_sooner rfl rfl (hM.1 _ (by decide)) rfl rfl (Nat.le_of_ble_eq_true rfl) (rmOK_b rfl) (fun r485 g485 h485 T485 L485 hp485 => ?_)
        obtain ⟨⟨er2, hF2⟩, eh2, el2⟩ := hp485
        have hreq := SoR.uni hm er1 er2
        have hfin : Sa g485 h485 T485 := Sa.of (st_pl hX hM6 hO hF1 hF2) (by rw [eh2, eh1]; exact hh)
        refine J_icmp_eq C 746 dL_law_488 (by decide) (fun hc488 => ?_) (fun hc => absurd hreq hc)
        refine J_iinc_3 C (4) dL_law_746 (by decide) trivial ic_4 ?_
        refine J_goto C 18 dL_law_749 (by decide) ?_
        rw [show nI (4 * i) + 4 = nI (4 * (i + 1)) from (a_4 _).trans (congrArg nI (by omega))]
        exact ih (i + 1) _ C hM _ _ _ _ (by omega) (by omega) hfin
      · skip
        rw [hsw32]
        refine J_tin C 493 dL_law_32 (by decide) (by decide) rfl (by decide) ?_
        refine J_aload_1 C dL_law_493 ?_
        refine G_vti C dL_law_494 (c_X5_standings E hM g h T Lg mm ρ hX.1 μ.1 ld hs hld hmu.1 hX.2.1.2.2.1) gL_law_X5_standings rfl dm_X5_standings rfl rfl (hM.1 _ (by decide)) rfl rfl (Nat.le_of_ble_eq_true rfl) (rmOK_b rfl) (fun r494 g494 h494 T494 L494 hp494 => ?_)
        obtain ⟨⟨er1, hF1⟩, eh1, el1⟩ := hp494
        have hM1 := hM6.ofPl hF1
        refine J_aload_2 C dL_law_497 ?_
        refine G_vti C dL_law_498 (c_X6_standings E hM g494 h494 T494 L494 mm ρ hM1.1 μ.1 ld hs hld hM1.2.2.2.1.1 hM1.2.1.2.2.1) gL_law_X6_standings rfl dm_X6_standings rfl rfl (hM.1 _ (by decide)) rfl rfl (Nat.le_of_ble_eq_true rfl) (rmOK_b rfl) (fun r498 g498 h498 T498 L498 hp498 => ?_)
        obtain ⟨⟨er2, hF2⟩, eh2, el2⟩ := hp498
        have hreq := er1.trans er2.symm
        have hfin : Sa g498 h498 T498 := Sa.of (st_pl hX hM6 hO hF1 hF2) (by rw [eh2, eh1]; exact hh)
        refine J_icmp_eq C 746 dL_law_501 (by decide) (fun hc501 => ?_) (fun hc => absurd hreq hc)
        refine J_iinc_3 C (4) dL_law_746 (by decide) trivial ic_4 ?_
        refine J_goto C 18 dL_law_749 (by decide) ?_
        rw [show nI (4 * i) + 4 = nI (4 * (i + 1)) from (a_4 _).trans (congrArg nI (by omega))]
        exact ih (i + 1) _ C hM _ _ _ _ (by omega) (by omega) hfin
      · skip
        rw [hsw32]
        refine J_tin C 506 dL_law_32 (by decide) (by decide) rfl (by decide) ?_
        refine J_aload_1 C dL_law_506 ?_
        refine J_aload_0 C dL_law_507 ?_
        refine J_iload_3 C dL_law_508 ?_
        refine J_iconst C (1) dL_law_509 ic_1 ?_
        refine J_iadd C dL_law_510 ?_
        refine J_sld C hXs hbl (Nat.not_le.mpr hbl) (4 * i + 1) (nI_1 _) (by omega) (by omega) dL_law_511 ?_
        refine J_aload_0 C dL_law_512 ?_
        refine J_iload_3 C dL_law_513 ?_
        refine J_iconst C (2) dL_law_514 ic_2 ?_
        refine J_iadd C dL_law_515 ?_
        refine J_sld C hXs hbl (Nat.not_le.mpr hbl) (4 * i + 2) (a_2 _) (by omega) (by omega) dL_law_516 ?_
        refine J_aload_0 C dL_law_517 ?_
        refine J_iload_3 C dL_law_518 ?_
        refine J_iconst C (3) dL_law_519 ic_3 ?_
        refine J_iadd C dL_law_520 ?_
        refine J_sld C hXs hbl (Nat.not_le.mpr hbl) (4 * i + 3) (a_3 _) (by omega) (by omega) dL_law_521 ?_
        refine G_vti C dL_law_522 (c_X5_saw E hM g h T Lg mm ρ hX.1 sn.length hO.2.2.2.2.1.1 hX.2.2.2.2.1.1 _ _ _) gL_law_X5_saw rfl dm_X5_saw rfl rfl (hM.1 _ (by decide)) rfl rfl (Nat.le_of_ble_eq_true rfl) (rmOK_b rfl) (fun r522 g522 h522 T522 L522 hp522 => ?_)
        obtain ⟨er1, eh1, el1⟩ := hp522
        have hM1 := hM6.keep (fun k hk => er1.fr.1 k (by omega)) (fun c hc => er1.fr.2 c (by omega) (by omega) (by omega))
        refine J_aload_2 C dL_law_525 ?_
        refine J_aload_0 C dL_law_526 ?_
        refine J_iload_3 C dL_law_527 ?_
        refine J_iconst C (1) dL_law_528 ic_1 ?_
        refine J_iadd C dL_law_529 ?_
        refine J_sld C hXs hbl (Nat.not_le.mpr hbl) (4 * i + 1) (nI_1 _) (by omega) (by omega) dL_law_530 ?_
        refine J_aload_0 C dL_law_531 ?_
        refine J_iload_3 C dL_law_532 ?_
        refine J_iconst C (2) dL_law_533 ic_2 ?_
        refine J_iadd C dL_law_534 ?_
        refine J_sld C hXs hbl (Nat.not_le.mpr hbl) (4 * i + 2) (a_2 _) (by omega) (by omega) dL_law_535 ?_
        refine J_aload_0 C dL_law_536 ?_
        refine J_iload_3 C dL_law_537 ?_
        refine J_iconst C (3) dL_law_538 ic_3 ?_
        refine J_iadd C dL_law_539 ?_
        refine J_sld C hXs hbl (Nat.not_le.mpr hbl) (4 * i + 3) (a_3 _) (by omega) (by omega) dL_law_540 ?_
        refine G_vti C dL_law_541 (c_X6_saw E hM g522 h522 T522 L522 mm ρ hM1.1 sn.length hO.2.2.2.2.1.1 hM1.2.2.2.2.1.1 _ _ _) gL_law_X6_saw rfl dm_X6_saw rfl rfl (hM.1 _ (by decide)) rfl rfl (Nat.le_of_ble_eq_true rfl) (rmOK_b rfl) (fun r541 g541 h541 T541 L541 hp541 => ?_)
        obtain ⟨er2, eh2, el2⟩ := hp541
        obtain ⟨hreq, hsb⟩ := st_sw hX hM6 hO er1 er2
        have hfin : Sa g541 h541 T541 := Sa.of hsb (by rw [eh2, eh1]; exact hh)
        refine J_icmp_eq C 746 dL_law_544 (by decide) (fun hc544 => ?_) (fun hc => absurd hreq hc)
        refine J_iinc_3 C (4) dL_law_746 (by decide) trivial ic_4 ?_
        refine J_goto C 18 dL_law_749 (by decide) ?_
        rw [show nI (4 * i) + 4 = nI (4 * (i + 1)) from (a_4 _).trans (congrArg nI (by omega))]
        exact ih (i + 1) _ C hM _ _ _ _ (by omega) (by omega) hfin
      · skip
        rw [hsw32]
        refine J_tin C 549 dL_law_32 (by decide) (by decide) rfl (by decide) ?_
        refine J_aload_1 C dL_law_549 ?_
        refine G_vti C dL_law_550 (c_X5_forget E hM g h T Lg) gL_law_X5_forget rfl dm_X5_forget rfl rfl (hM.1 _ (by decide)) rfl rfl (Nat.le_of_ble_eq_true rfl) (rmOK_b rfl) (fun r550 g550 h550 T550 L550 hp550 => ?_)
        obtain ⟨er1, eg1, eh1, eT1, el1⟩ := hp550
        refine J_aload_2 C dL_law_553 ?_
        refine G_vti C dL_law_554 (c_X6_forget E hM g550 h550 T550 L550) gL_law_X6_forget rfl dm_X6_forget rfl rfl (hM.1 _ (by decide)) rfl rfl (Nat.le_of_ble_eq_true rfl) (rmOK_b rfl) (fun r554 g554 h554 T554 L554 hp554 => ?_)
        obtain ⟨er2, eg2, eh2, eT2, el2⟩ := hp554
        have hreq : r550 = r554 := by rw [er1, er2, eg1, show g 3100 = nI sn.length from hX.2.2.2.2.1.1, show upd g 3100 0 4817 = nI sn.length from (by simp [upd]; exact hM6.2.2.2.2.1.1)]
        have hfin : Sa g554 h554 T554 := by
          rw [eg2, eT2, eg1, eT1]
          exact Sa.of (st_fo (g1 := g) (g2 := g) (T1 := T) (T2 := T) hX hM6 hO) (by rw [eh2, eh1]; exact hh)
        refine J_icmp_eq C 746 dL_law_557 (by decide) (fun hc557 => ?_) (fun hc => absurd hreq hc)
        refine J_iinc_3 C (4) dL_law_746 (by decide) trivial ic_4 ?_
        refine J_goto C 18 dL_law_749 (by decide) ?_
        rw [show nI (4 * i) + 4 = nI (4 * (i + 1)) from (a_4 _).trans (congrArg nI (by omega))]
        exact ih (i + 1) _ C hM _ _ _ _ (by omega) (by omega) hfin
      · skip
        rw [hsw32]
        refine J_tin C 562 dL_law_32 (by decide) (by decide) rfl (by decide) ?_
        refine J_aload_1 C dL_law_562 ?_
        refine J_aload_0 C dL_law_563 ?_
        refine J_iload_3 C dL_law_564 ?_
        refine J_iconst C (1) dL_law_565 ic_1 ?_
        refine J_iadd C dL_law_566 ?_
        refine J_sld C hXs hbl (Nat.not_le.mpr hbl) (4 * i + 1) (nI_1 _) (by omega) (by omega) dL_law_567 ?_
        refine J_aload_0 C dL_law_568 ?_
        refine J_iload_3 C dL_law_569 ?_
        refine J_iconst C (2) dL_law_570 ic_2 ?_
        refine J_iadd C dL_law_571 ?_
        refine J_sld C hXs hbl (Nat.not_le.mpr hbl) (4 * i + 2) (a_2 _) (by omega) (by omega) dL_law_572 ?_
        refine G_vtl C dL_law_573 (c_X5_fits E hM g h T Lg mm ρ hX.1 sn hX.2.2.2.2.1 hO.2.2.2.2.1 ld hld hX.2.1.2.2.1 bg hO.1.2 hX.2.1.2.1 _ _) gL_law_X5_fits rfl dm_X5_fits rfl rfl (hM.1 _ (by decide)) rfl rfl (Nat.le_of_ble_eq_true rfl) (rmOK_b rfl) (fun r573 g573 h573 T573 L573 hp573 => ?_)
        obtain ⟨⟨er1, hl1⟩, eg1, eh1, eT1⟩ := hp573
        have hM1 : SM mm ρ pr ld fr bg n bt μ sn im g573 T573 := by
          rw [eg1, eT1]
          exact hM6
        refine J_aload_2 C dL_law_576 ?_
        refine J_aload_0 C dL_law_577 ?_
        refine J_iload_3 C dL_law_578 ?_
        refine J_iconst C (1) dL_law_579 ic_1 ?_
        refine J_iadd C dL_law_580 ?_
        refine J_sld C hXs hbl (Nat.not_le.mpr hbl) (4 * i + 1) (nI_1 _) (by omega) (by omega) dL_law_581 ?_
        refine J_aload_0 C dL_law_582 ?_
        refine J_iload_3 C dL_law_583 ?_
        refine J_iconst C (2) dL_law_584 ic_2 ?_
        refine J_iadd C dL_law_585 ?_
        refine J_sld C hXs hbl (Nat.not_le.mpr hbl) (4 * i + 2) (a_2 _) (by omega) (by omega) dL_law_586 ?_
        refine G_vtl C dL_law_587 (c_X6_fits E hM g573 h573 T573 L573 mm ρ hM1.1 sn hM1.2.2.2.2.1 hO.2.2.2.2.1 ld hld hM1.2.1.2.2.1 bg hO.1.2 hM1.2.1.2.1 _ _) gL_law_X6_fits rfl dm_X6_fits rfl rfl (hM.1 _ (by decide)) rfl rfl (Nat.le_of_ble_eq_true rfl) (rmOK_b rfl) (fun r587 g587 h587 T587 L587 hp587 => ?_)
        obtain ⟨⟨er2, hl2⟩, eg2, eh2, eT2⟩ := hp587
        have hreq := FtR.uni er1 er2
        have hfin : Sa g587 h587 T587 := by
          rw [eg2, eT2, eg1, eT1]
          exact Sa.of ⟨mm, ρ, pr, ld, fr, bg, n, bt, μ, sn, im, hX, hM6, hO⟩ (by rw [eh2, eh1]; exact hh)
        refine J_lcmp C dL_law_590 ?_
        refine J_if_eq C 746 dL_law_591 (by decide) (fun hc591 => ?_) (fun hc => absurd (cmp_e.mpr hreq) hc)
        refine J_iinc_3 C (4) dL_law_746 (by decide) trivial ic_4 ?_
        refine J_goto C 18 dL_law_749 (by decide) ?_
        rw [show nI (4 * i) + 4 = nI (4 * (i + 1)) from (a_4 _).trans (congrArg nI (by omega))]
        exact ih (i + 1) _ C hM _ _ _ _ (by omega) (by omega) hfin
      · skip
        rw [hsw32]
        refine J_tin C 596 dL_law_32 (by decide) (by decide) rfl (by decide) ?_
        refine J_aload_1 C dL_law_596 ?_
        refine J_aload_0 C dL_law_597 ?_
        refine J_iload_3 C dL_law_598 ?_
        refine J_iconst C (1) dL_law_599 ic_1 ?_
        refine J_iadd C dL_law_600 ?_
        refine J_sld C hXs hbl (Nat.not_le.mpr hbl) (4 * i + 1) (nI_1 _) (by omega) (by omega) dL_law_601 ?_
        refine J_aload_0 C dL_law_602 ?_
        refine J_iload_3 C dL_law_603 ?_
        refine J_iconst C (2) dL_law_604 ic_2 ?_
        refine J_iadd C dL_law_605 ?_
        refine J_sld C hXs hbl (Nat.not_le.mpr hbl) (4 * i + 2) (a_2 _) (by omega) (by omega) dL_law_606 ?_
        refine G_vpl C dL_law_607 (c_X5_owed E hM g h T Lg mm ρ hX.1 μ.1 hs hmu.1 _ _) gL_law_X5_owed rfl dm_X5_owed rfl rfl (hM.1 _ (by decide)) rfl rfl (Nat.le_of_ble_eq_true rfl) (rmOK_b rfl) (fun r607 hr607 => ?_)
        skip
        refine J_aload_2 C dL_law_610 ?_
        refine J_aload_0 C dL_law_611 ?_
        refine J_iload_3 C dL_law_612 ?_
        refine J_iconst C (1) dL_law_613 ic_1 ?_
        refine J_iadd C dL_law_614 ?_
        refine J_sld C hXs hbl (Nat.not_le.mpr hbl) (4 * i + 1) (nI_1 _) (by omega) (by omega) dL_law_615 ?_
        refine J_aload_0 C dL_law_616 ?_
        refine J_iload_3 C dL_law_617 ?_
        refine J_iconst C (2) dL_law_618 ic_2 ?_
        refine J_iadd C dL_law_619 ?_
        refine J_sld C hXs hbl (Nat.not_le.mpr hbl) (4 * i + 2) (a_2 _) (by omega) (by omega) dL_law_620 ?_
        refine G_vpl C dL_law_621 (c_X6_owed E hM g h T Lg mm ρ hM6.1 μ.1 hs hM6.2.2.2.1.1 _ _) gL_law_X6_owed rfl dm_X6_owed rfl rfl (hM.1 _ (by decide)) rfl rfl (Nat.le_of_ble_eq_true rfl) (rmOK_b rfl) (fun r621 hr621 => ?_)
        have hreq := hr607.trans hr621.symm
        refine J_lcmp C dL_law_624 ?_
        refine J_if_eq C 746 dL_law_625 (by decide) (fun hc625 => ?_) (fun hc => absurd (cmp_e.mpr hreq) hc)
        refine J_iinc_3 C (4) dL_law_746 (by decide) trivial ic_4 ?_
        refine J_goto C 18 dL_law_749 (by decide) ?_
        rw [show nI (4 * i) + 4 = nI (4 * (i + 1)) from (a_4 _).trans (congrArg nI (by omega))]
        exact ih (i + 1) _ C hM _ _ _ _ (by omega) (by omega) hfin
      · skip
        rw [hsw32]
        refine J_tin C 630 dL_law_32 (by decide) (by decide) rfl (by decide) ?_
        refine J_aload_1 C dL_law_630 ?_
        refine J_aload_0 C dL_law_631 ?_
        refine J_iload_3 C dL_law_632 ?_
        refine J_iconst C (1) dL_law_633 ic_1 ?_
        refine J_iadd C dL_law_634 ?_
        refine J_sld C hXs hbl (Nat.not_le.mpr hbl) (4 * i + 1) (nI_1 _) (by omega) (by omega) dL_law_635 ?_
        refine J_aload_0 C dL_law_636 ?_
        refine J_iload_3 C dL_law_637 ?_
        refine J_iconst C (2) dL_law_638 ic_2 ?_
        refine J_iadd C dL_law_639 ?_
        refine J_sld C hXs hbl (Nat.not_le.mpr hbl) (4 * i + 2) (a_2 _) (by omega) (by omega) dL_law_640 ?_
        refine G_vti C dL_law_641 (c_X5_mark E hM g h T Lg mm ρ hX.1 μ.2.2.1 hmu.2.2.1 _ _) gL_law_X5_mark rfl dm_X5_mark rfl rfl (hM.1 _ (by decide)) rfl rfl (Nat.le_of_ble_eq_true rfl) (rmOK_b rfl) (fun r641 g641 h641 T641 L641 hp641 => ?_)
        obtain ⟨⟨er1, hA1⟩, eg1, eT1, el1⟩ := hp641
        have hM1 : SM mm ρ pr ld fr bg n bt μ sn im g641 T641 := by
          rw [eg1, eT1]
          exact hM6
        refine J_aload_2 C dL_law_644 ?_
        refine J_aload_0 C dL_law_645 ?_
        refine J_iload_3 C dL_law_646 ?_
        refine J_iconst C (1) dL_law_647 ic_1 ?_
        refine J_iadd C dL_law_648 ?_
        refine J_sld C hXs hbl (Nat.not_le.mpr hbl) (4 * i + 1) (nI_1 _) (by omega) (by omega) dL_law_649 ?_
        refine J_aload_0 C dL_law_650 ?_
        refine J_iload_3 C dL_law_651 ?_
        refine J_iconst C (2) dL_law_652 ic_2 ?_
        refine J_iadd C dL_law_653 ?_
        refine J_sld C hXs hbl (Nat.not_le.mpr hbl) (4 * i + 2) (a_2 _) (by omega) (by omega) dL_law_654 ?_
        refine G_vti C dL_law_655 (c_X6_mark E hM g641 h641 T641 L641 mm ρ hM1.1 hR4 μ.2.2.1 hM1.2.2.2.1.2.2.1 _ _) gL_law_X6_mark rfl dm_X6_mark rfl rfl (hM.1 _ (by decide)) rfl rfl (Nat.le_of_ble_eq_true rfl) (rmOK_b rfl) (fun r655 g655 h655 T655 L655 hp655 => ?_)
        obtain ⟨⟨er2, hA2⟩, eg2, eT2, el2⟩ := hp655
        have hreq := er1.trans er2.symm
        have hfin : Sa g655 h655 T655 := by
          rw [eg2, eT2, eg1, eT1]
          exact Sa.of ⟨mm, ρ, pr, ld, fr, bg, n, bt, μ, sn, im, hX, hM6, hO⟩ (by rw [hA2.2 10 (by decide), hA1.1, hA2.1, hA1.2 4822 (by decide), hh])
        refine J_icmp_eq C 746 dL_law_658 (by decide) (fun hc658 => ?_) (fun hc => absurd hreq hc)
        refine J_iinc_3 C (4) dL_law_746 (by decide) trivial ic_4 ?_
        refine J_goto C 18 dL_law_749 (by decide) ?_
        rw [show nI (4 * i) + 4 = nI (4 * (i + 1)) from (a_4 _).trans (congrArg nI (by omega))]
        exact ih (i + 1) _ C hM _ _ _ _ (by omega) (by omega) hfin
      · skip
        rw [hsw32]
        refine J_tin C 663 dL_law_32 (by decide) (by decide) rfl (by decide) ?_
        refine J_aload_1 C dL_law_663 ?_
        refine J_aload_0 C dL_law_664 ?_
        refine J_iload_3 C dL_law_665 ?_
        refine J_iconst C (1) dL_law_666 ic_1 ?_
        refine J_iadd C dL_law_667 ?_
        refine J_sld C hXs hbl (Nat.not_le.mpr hbl) (4 * i + 1) (nI_1 _) (by omega) (by omega) dL_law_668 ?_
        refine G_vti C dL_law_669 (c_X5_keep E hM g h T Lg μ hmu hok im hX.2.2.2.2.2 _) gL_law_X5_keep rfl dm_X5_keep rfl rfl (hM.1 _ (by decide)) rfl rfl (Nat.le_of_ble_eq_true rfl) (rmOK_b rfl) (fun r669 g669 h669 T669 L669 hp669 => ?_)
        obtain ⟨⟨er1, i1, f1, f2⟩, eh1, el1⟩ := hp669
        have hM1 := hM6.keep (fun k hk => f1 k (by omega)) (fun c hc => f2 c (by omega) (by omega))
        refine J_aload_2 C dL_law_672 ?_
        refine J_aload_0 C dL_law_673 ?_
        refine J_iload_3 C dL_law_674 ?_
        refine J_iconst C (1) dL_law_675 ic_1 ?_
        refine J_iadd C dL_law_676 ?_
        refine J_sld C hXs hbl (Nat.not_le.mpr hbl) (4 * i + 1) (nI_1 _) (by omega) (by omega) dL_law_677 ?_
        refine G_vti C dL_law_678 (c_X6_keep E hM g669 h669 T669 L669 μ hM1.2.2.2.1 hok im hM1.2.2.2.2.2 hio _) gL_law_X6_keep rfl dm_X6_keep rfl rfl (hM.1 _ (by decide)) rfl rfl (Nat.le_of_ble_eq_true rfl) (rmOK_b rfl) (fun r678 g678 h678 T678 L678 hp678 => ?_)
        obtain ⟨⟨er2, i2, eg2, f3⟩, eh2, el2⟩ := hp678
        have hreq := er1.trans er2.symm
        have hfin : Sa g678 h678 T678 := by
          rw [eg2]
          exact Sa.of (st_ke (g2 := g669) hX hM6 hO (keepS_ok hok hio) i1 f1 f2 i2 f3) (by rw [eh2, eh1]; exact hh)
        refine J_icmp_eq C 746 dL_law_681 (by decide) (fun hc681 => ?_) (fun hc => absurd hreq hc)
        refine J_iinc_3 C (4) dL_law_746 (by decide) trivial ic_4 ?_
        refine J_goto C 18 dL_law_749 (by decide) ?_
        rw [show nI (4 * i) + 4 = nI (4 * (i + 1)) from (a_4 _).trans (congrArg nI (by omega))]
        exact ih (i + 1) _ C hM _ _ _ _ (by omega) (by omega) hfin
      · skip
        rw [hsw32]
        refine J_tin C 686 dL_law_32 (by decide) (by decide) rfl (by decide) ?_
        refine J_aload_1 C dL_law_686 ?_
        refine J_aload_0 C dL_law_687 ?_
        refine J_iload_3 C dL_law_688 ?_
        refine J_iconst C (1) dL_law_689 ic_1 ?_
        refine J_iadd C dL_law_690 ?_
        refine J_sld C hXs hbl (Nat.not_le.mpr hbl) (4 * i + 1) (nI_1 _) (by omega) (by omega) dL_law_691 ?_
        refine G_vti C dL_law_692 (c_X5_back E hM g h T Lg μ hmu hok im hX.2.2.2.2.2 _ hio) gL_law_X5_back rfl dm_X5_back rfl rfl (hM.1 _ (by decide)) rfl rfl (Nat.le_of_ble_eq_true rfl) (rmOK_b rfl) (fun r692 g692 h692 T692 L692 hp692 => ?_)
        obtain ⟨⟨er1, hm1, hF1⟩, eh1, el1⟩ := hp692
        have hX1 := hX.mo hm1 hF1
        have hM1 := hM6.ofMo hF1
        refine J_aload_2 C dL_law_695 ?_
        refine J_aload_0 C dL_law_696 ?_
        refine J_iload_3 C dL_law_697 ?_
        refine J_iconst C (1) dL_law_698 ic_1 ?_
        refine J_iadd C dL_law_699 ?_
        refine J_sld C hXs hbl (Nat.not_le.mpr hbl) (4 * i + 1) (nI_1 _) (by omega) (by omega) dL_law_700 ?_
        refine G_vti C dL_law_701 (c_X6_back E hM g692 h692 T692 L692 μ hM1.2.2.2.1 hok im hM1.2.2.2.2.2 hio _) gL_law_X6_back rfl dm_X6_back rfl rfl (hM.1 _ (by decide)) rfl rfl (Nat.le_of_ble_eq_true rfl) (rmOK_b rfl) (fun r701 g701 h701 T701 L701 hp701 => ?_)
        obtain ⟨⟨er2, hm2, hF2⟩, eh2, el2⟩ := hp701
        have hreq := er1.trans er2.symm
        have hfin : Sa g701 h701 T701 := Sa.of (st_mo hX hM6 hO (backS_ok hok hio) hm1 hF1 hm2 hF2) (by rw [eh2, eh1]; exact hh)
        refine J_icmp_eq C 746 dL_law_704 (by decide) (fun hc704 => ?_) (fun hc => absurd hreq hc)
        refine J_iinc_3 C (4) dL_law_746 (by decide) trivial ic_4 ?_
        refine J_goto C 18 dL_law_749 (by decide) ?_
        rw [show nI (4 * i) + 4 = nI (4 * (i + 1)) from (a_4 _).trans (congrArg nI (by omega))]
        exact ih (i + 1) _ C hM _ _ _ _ (by omega) (by omega) hfin
      · skip
        rw [hsw32]
        refine J_tin C 709 dL_law_32 (by decide) (by decide) rfl (by decide) ?_
        refine J_aload_1 C dL_law_709 ?_
        refine J_aload_0 C dL_law_710 ?_
        refine J_iload_3 C dL_law_711 ?_
        refine J_iconst C (1) dL_law_712 ic_1 ?_
        refine J_iadd C dL_law_713 ?_
        refine J_sld C hXs hbl (Nat.not_le.mpr hbl) (4 * i + 1) (nI_1 _) (by omega) (by omega) dL_law_714 ?_
        refine G_vpi C dL_law_715 (c_X5_count E hM g h T Lg _) gL_law_X5_count rfl dm_X5_count rfl rfl (hM.1 _ (by decide)) rfl rfl (Nat.le_of_ble_eq_true rfl) (rmOK_b rfl) (fun r715 hr715 => ?_)
        skip
        refine J_aload_2 C dL_law_718 ?_
        refine J_aload_0 C dL_law_719 ?_
        refine J_iload_3 C dL_law_720 ?_
        refine J_iconst C (1) dL_law_721 ic_1 ?_
        refine J_iadd C dL_law_722 ?_
        refine J_sld C hXs hbl (Nat.not_le.mpr hbl) (4 * i + 1) (nI_1 _) (by omega) (by omega) dL_law_723 ?_
        refine G_vpi C dL_law_724 (c_X6_count E hM g h T Lg _) gL_law_X6_count rfl dm_X6_count rfl rfl (hM.1 _ (by decide)) rfl rfl (Nat.le_of_ble_eq_true rfl) (rmOK_b rfl) (fun r724 hr724 => ?_)
        have hreq : r715 = r724 := by rw [hr715, hr724, show g 600 = nI mm from hX.1.2.1, show g 602 = nI pr from hX.2.1.1, show g 3100 = nI sn.length from hX.2.2.2.2.1.1, show g 2004 = nI μ.2.2.2.2.length from hmu.2.2.2.2.1, show g 1 = nI n from hX.2.2.1.1, show g 4802 = nI mm from hM6.1.2.1, show g 4803 = nI pr from hM6.2.1.1, show g 4817 = nI sn.length from hM6.2.2.2.2.1.1, show g 4815 = nI μ.2.2.2.2.length from hM6.2.2.2.1.2.2.2.2.1, show g 4801 = nI n from hM6.2.2.1.1]
        refine J_icmp_eq C 746 dL_law_727 (by decide) (fun hc727 => ?_) (fun hc => absurd hreq hc)
        refine J_iinc_3 C (4) dL_law_746 (by decide) trivial ic_4 ?_
        refine J_goto C 18 dL_law_749 (by decide) ?_
        rw [show nI (4 * i) + 4 = nI (4 * (i + 1)) from (a_4 _).trans (congrArg nI (by omega))]
        exact ih (i + 1) _ C hM _ _ _ _ (by omega) (by omega) hfin
      · skip
        rw [hsw32]
        refine J_tin C 732 dL_law_32 (by decide) (by decide) rfl (by decide) ?_
        refine J_aload_1 C dL_law_732 ?_
        refine G_vpl C dL_law_733 (c_X5_trace E hM g h T Lg) gL_law_X5_trace rfl dm_X5_trace rfl rfl (hM.1 _ (by decide)) rfl rfl (Nat.le_of_ble_eq_true rfl) (rmOK_b rfl) (fun r733 hr733 => ?_)
        skip
        refine J_aload_2 C dL_law_736 ?_
        refine G_vpl C dL_law_737 (c_X6_trace E hM g h T Lg) gL_law_X6_trace rfl dm_X6_trace rfl rfl (hM.1 _ (by decide)) rfl rfl (Nat.le_of_ble_eq_true rfl) (rmOK_b rfl) (fun r737 hr737 => ?_)
        have hreq : r733 = r737 := by rw [hr733, hr737, hh]
        refine J_lcmp C dL_law_740 ?_
        refine J_if_eq C 746 dL_law_741 (by decide) (fun hc741 => ?_) (fun hc => absurd (cmp_e.mpr hreq) hc)
        refine J_iinc_3 C (4) dL_law_746 (by decide) trivial ic_4 ?_
        refine J_goto C 18 dL_law_749 (by decide) ?_
        rw [show nI (4 * i) + 4 = nI (4 * (i + 1)) from (a_4 _).trans (congrArg nI (by omega))]
        exact ih (i + 1) _ C hM _ _ _ _ (by omega) (by omega) hfin
      · skip
        refine J_tout C 746 dL_law_32 (by rw [nI_toInt (show j < 2 ^ 31 by omega)]; omega) (by decide) ?_
        refine J_iinc_3 C (4) dL_law_746 (by decide) trivial ic_4 ?_
        refine J_goto C 18 dL_law_749 (by decide) ?_
        rw [show nI (4 * i) + 4 = nI (4 * (i + 1)) from (a_4 _).trans (congrArg nI (by omega))]
        exact ih (i + 1) _ C hM _ _ _ _ (by omega) (by omega) hfin
