set_option maxHeartbeats 4000000 in
set_option maxRecDepth 100000 in
theorem c_X5_errorPosition (l : Launch) (dC : Nat → ClassId) (dI : Nat → Nat → Nat) (cI cJ : ClassId) (q : Nat → Nat) (bf : Nat → Int32) (ln : Nat) (hln : ln ≤ 28)  : Met l yX5_errorPosition wsX5_errorPosition ({ frames := 3, cells := 0, slots := 0, locals := 66 }) (va_Pc [.ref (q 0)] (RO (dC, dI) (tyK cI cJ) ([(q 0, .inr (5, [.ref (q 1), .ref (q 3), .ref (q 8), .ref (q 14), .ref (q 17)])), (q 1, .inr (2, [.ref (q 2), .int (nI ln)])), (q 2, .inl (cI, 28, .inl bf))]))) (vp_Sl (fun r => r = lN (faultA bf ln))) 0 0 (fun _ => False) := by
  refine Met.ofW (cc := cX5_errorPosition) (maxL := 1) (ret := (some .long)) (by decide) rfl ?_
  intro p e s m args below meth c s₁ B hml hv
  obtain ⟨rfl, hP, hK, hN⟩ := hv
  have hx := B.exec
  have hb := B.bytes
  have hr := B.returns
  have hts := atoms_spec (ws := wsX5_errorPosition) B.pre
  have hown : s.vm.findClass RX5 = some m.cls := findClass_of_methodNamed B.named
  have hlocks := B.notSynchronized
  have hP : va_P (dC, dI) vwCl [(q 0, .inr (5, [.ref (q 1), .ref (q 3), .ref (q 8), .ref (q 14), .ref (q 17)])), (q 1, .inr (2, [.ref (q 2), .int (nI ln)])), (q 2, .inl (cI, 28, .inl bf))] s.heap := hP
  have hl := lv_entry ([.ref (q 0)]) (n := 1) (Nat.le_of_ble_eq_true rfl)
  rw [lg_entry_eq]
  generalize (lg_sl ([.ref (q 0)]) ++ List.replicate (1 - (lg_sl ([.ref (q 0)])).length) Slot.unset).toArray = ls at hl ⊢
  have hl : lv_has ls 1 [(0, .ref (q 0))] := hl
  refine lv_aload_n hx hb dX5_errorPosition_0 rfl (lv_at hl 0 rfl) ?_
  refine va_get (D := (dC, dI)) (ci := 5) (v := .ref (q 1)) (C := RX5) (T := TX5) (N := 5) hx hb hts (by decide +kernel) hown hK hP 0 rfl rfl 0 (by decide) (hts (.fieldLink RX5 12 "AchromatDesk" "buffer" "LAchromatDesk$GlassText;") (by decide +kernel)) (fun _ h9 => h9) rfl dX5_errorPosition_1 ?_
  refine roVi (As := []) (rest := []) (c_X2_firstFault l dC dI cI cJ q bf ln hln ) ⟨hx, hb, hml, hown, hts⟩ (cwV 0 hts gX5_errorPosition_X2_firstFault rfl rfl rfl (by decide +kernel) ⟨Nat.le_of_ble_eq_true rfl, Nat.le_of_ble_eq_true rfl⟩) (hP.sub [1, 2] rfl) hK hN (ci := 2) rfl rfl rfl hl.1 rfl (Nat.le_of_ble_eq_true rfl) dX5_errorPosition_4 ⟨Nat.zero_le _, Nat.zero_le _⟩ (fun r hr0 => ?_)
  subst hr0
  have hFe := faultA_le bf ln
  refine lv_i2l (v := lN (faultA bf ln)) hx hb dX5_errorPosition_7 (nI_l (by omega)) ?_
  exact W.lret hx hb hr (fun t ht hW => ⟨_, rfl, rfl, ht⟩) (fun _ h => absurd h List.not_mem_nil) dX5_errorPosition_8

set_option maxHeartbeats 4000000 in
set_option maxRecDepth 100000 in
theorem c_X5_glassCount (l : Launch) (dC : Nat → ClassId) (dI : Nat → Nat → Nat) (cI cJ : ClassId) (q : Nat → Nat) (G : GL) (n : Nat) (hn : n ≤ 20)  : Met l yX5_glassCount wsX5_glassCount ({ frames := 0, cells := 0, slots := 0, locals := 0 }) (va_Pc [.ref (q 0)] (RO (dC, dI) (tyK cI cJ) ([(q 0, .inr (5, [.ref (q 1), .ref (q 3), .ref (q 8), .ref (q 14), .ref (q 17)])), (q 3, .inr (0, [.ref (q 4), .ref (q 5), .ref (q 6), .ref (q 7), .int (nI n)])), (q 4, .inl (cJ, 20, .inr (.inl (gK G)))), (q 5, .inl (cI, 20, .inl (gF G))), (q 6, .inl (cI, 20, .inl (gD G))), (q 7, .inl (cI, 20, .inl (gC G)))]))) (vp_Sl (fun r => r = lN n)) 0 0 (fun _ => False) := by
  refine Met.ofW (cc := cX5_glassCount) (maxL := 1) (ret := (some .long)) (by decide) rfl ?_
  intro p e s m args below meth c s₁ B hml hv
  obtain ⟨rfl, hP, hK, hN⟩ := hv
  have hx := B.exec
  have hb := B.bytes
  have hr := B.returns
  have hts := atoms_spec (ws := wsX5_glassCount) B.pre
  have hown : s.vm.findClass RX5 = some m.cls := findClass_of_methodNamed B.named
  have hlocks := B.notSynchronized
  have hP : va_P (dC, dI) vwCl [(q 0, .inr (5, [.ref (q 1), .ref (q 3), .ref (q 8), .ref (q 14), .ref (q 17)])), (q 3, .inr (0, [.ref (q 4), .ref (q 5), .ref (q 6), .ref (q 7), .int (nI n)])), (q 4, .inl (cJ, 20, .inr (.inl (gK G)))), (q 5, .inl (cI, 20, .inl (gF G))), (q 6, .inl (cI, 20, .inl (gD G))), (q 7, .inl (cI, 20, .inl (gC G)))] s.heap := hP
  have hl := lv_entry ([.ref (q 0)]) (n := 1) (Nat.le_of_ble_eq_true rfl)
  rw [lg_entry_eq]
  generalize (lg_sl ([.ref (q 0)]) ++ List.replicate (1 - (lg_sl ([.ref (q 0)])).length) Slot.unset).toArray = ls at hl ⊢
  have hl : lv_has ls 1 [(0, .ref (q 0))] := hl
  refine lv_aload_n hx hb dX5_glassCount_0 rfl (lv_at hl 0 rfl) ?_
  refine va_get (D := (dC, dI)) (ci := 5) (v := .ref (q 3)) (C := RX5) (T := TX5) (N := 5) hx hb hts (by decide +kernel) hown hK hP 0 rfl rfl 1 (by decide) (hts (.fieldLink RX5 19 "AchromatDesk" "glasses" "LAchromatDesk$Catalogue;") (by decide +kernel)) (fun _ h9 => h9) rfl dX5_glassCount_1 ?_
  refine va_getN (D := (dC, dI)) (ci := 0) (v := .int (nI n)) (C := RX0) (T := TX0) (N := 5) hx hb hts (by decide +kernel) hown hK hP 1 rfl rfl 4 (by decide) (va_Nw.use (w := .fieldLinkNest "AchromatDesk" 77 "AchromatDesk$Catalogue" "count" "I" "AchromatDesk") rfl (hN.at 2 rfl)) (fun _ h9 => h9) rfl dX5_glassCount_4 ?_
  refine lv_i2l (v := lN n) hx hb dX5_glassCount_7 (nI_l (by omega)) ?_
  exact W.lret hx hb hr (fun t ht hW => ⟨_, rfl, rfl, ht⟩) (fun _ h => absurd h List.not_mem_nil) dX5_glassCount_8

set_option maxHeartbeats 4000000 in
set_option maxRecDepth 100000 in
theorem c_X5_lensCount (l : Launch) (dC : Nat → ClassId) (dI : Nat → Nat → Nat) (cI cJ : ClassId) (q : Nat → Nat) (lg lp : Nat → Int32) (k : Nat) (hk : k ≤ 8)  : Met l yX5_lensCount wsX5_lensCount ({ frames := 0, cells := 0, slots := 0, locals := 0 }) (va_Pc [.ref (q 0)] (RO (dC, dI) (tyK cI cJ) ([(q 0, .inr (5, [.ref (q 1), .ref (q 3), .ref (q 8), .ref (q 14), .ref (q 17)])), (q 14, .inr (3, [.ref (q 15), .ref (q 16), .int (nI k)])), (q 15, .inl (cI, 8, .inl lg)), (q 16, .inl (cI, 8, .inl lp))]))) (vp_Sl (fun r => r = lN k)) 0 0 (fun _ => False) := by
  refine Met.ofW (cc := cX5_lensCount) (maxL := 1) (ret := (some .long)) (by decide) rfl ?_
  intro p e s m args below meth c s₁ B hml hv
  obtain ⟨rfl, hP, hK, hN⟩ := hv
  have hx := B.exec
  have hb := B.bytes
  have hr := B.returns
  have hts := atoms_spec (ws := wsX5_lensCount) B.pre
  have hown : s.vm.findClass RX5 = some m.cls := findClass_of_methodNamed B.named
  have hlocks := B.notSynchronized
  have hP : va_P (dC, dI) vwCl [(q 0, .inr (5, [.ref (q 1), .ref (q 3), .ref (q 8), .ref (q 14), .ref (q 17)])), (q 14, .inr (3, [.ref (q 15), .ref (q 16), .int (nI k)])), (q 15, .inl (cI, 8, .inl lg)), (q 16, .inl (cI, 8, .inl lp))] s.heap := hP
  have hl := lv_entry ([.ref (q 0)]) (n := 1) (Nat.le_of_ble_eq_true rfl)
  rw [lg_entry_eq]
  generalize (lg_sl ([.ref (q 0)]) ++ List.replicate (1 - (lg_sl ([.ref (q 0)])).length) Slot.unset).toArray = ls at hl ⊢
  have hl : lv_has ls 1 [(0, .ref (q 0))] := hl
  refine lv_aload_n hx hb dX5_lensCount_0 rfl (lv_at hl 0 rfl) ?_
  refine va_get (D := (dC, dI)) (ci := 5) (v := .ref (q 14)) (C := RX5) (T := TX5) (N := 5) hx hb hts (by decide +kernel) hown hK hP 0 rfl rfl 3 (by decide) (hts (.fieldLink RX5 33 "AchromatDesk" "system" "LAchromatDesk$LensSystem;") (by decide +kernel)) (fun _ h9 => h9) rfl dX5_lensCount_1 ?_
  refine va_getN (D := (dC, dI)) (ci := 3) (v := .int (nI k)) (C := RX3) (T := TX3) (N := 3) hx hb hts (by decide +kernel) hown hK hP 1 rfl rfl 2 (by decide) (va_Nw.use (w := .fieldLinkNest "AchromatDesk" 178 "AchromatDesk$LensSystem" "count" "I" "AchromatDesk") rfl (hN.at 4 rfl)) (fun _ h9 => h9) rfl dX5_lensCount_4 ?_
  refine lv_i2l (v := lN k) hx hb dX5_lensCount_7 (nI_l (by omega)) ?_
  exact W.lret hx hb hr (fun t ht hW => ⟨_, rfl, rfl, ht⟩) (fun _ h => absurd h List.not_mem_nil) dX5_lensCount_8

set_option maxHeartbeats 4000000 in
set_option maxRecDepth 100000 in
theorem c_X5_plateCount (l : Launch) (dC : Nat → ClassId) (dI : Nat → Nat → Nat) (cI cJ : ClassId) (q : Nat → Nat) (rd : Nat → Int32) (np : Nat) (hp : np ≤ 16)  : Met l yX5_plateCount wsX5_plateCount ({ frames := 0, cells := 0, slots := 0, locals := 0 }) (va_Pc [.ref (q 0)] (RO (dC, dI) (tyK cI cJ) ([(q 0, .inr (5, [.ref (q 1), .ref (q 3), .ref (q 8), .ref (q 14), .ref (q 17)])), (q 17, .inr (4, [.ref (q 18), .int (nI np)])), (q 18, .inl (cI, 16, .inl rd))]))) (vp_Sl (fun r => r = lN np)) 0 0 (fun _ => False) := by
  refine Met.ofW (cc := cX5_plateCount) (maxL := 1) (ret := (some .long)) (by decide) rfl ?_
  intro p e s m args below meth c s₁ B hml hv
  obtain ⟨rfl, hP, hK, hN⟩ := hv
  have hx := B.exec
  have hb := B.bytes
  have hr := B.returns
  have hts := atoms_spec (ws := wsX5_plateCount) B.pre
  have hown : s.vm.findClass RX5 = some m.cls := findClass_of_methodNamed B.named
  have hlocks := B.notSynchronized
  have hP : va_P (dC, dI) vwCl [(q 0, .inr (5, [.ref (q 1), .ref (q 3), .ref (q 8), .ref (q 14), .ref (q 17)])), (q 17, .inr (4, [.ref (q 18), .int (nI np)])), (q 18, .inl (cI, 16, .inl rd))] s.heap := hP
  have hl := lv_entry ([.ref (q 0)]) (n := 1) (Nat.le_of_ble_eq_true rfl)
  rw [lg_entry_eq]
  generalize (lg_sl ([.ref (q 0)]) ++ List.replicate (1 - (lg_sl ([.ref (q 0)])).length) Slot.unset).toArray = ls at hl ⊢
  have hl : lv_has ls 1 [(0, .ref (q 0))] := hl
  refine lv_aload_n hx hb dX5_plateCount_0 rfl (lv_at hl 0 rfl) ?_
  refine va_get (D := (dC, dI)) (ci := 5) (v := .ref (q 17)) (C := RX5) (T := TX5) (N := 5) hx hb hts (by decide +kernel) hown hK hP 0 rfl rfl 4 (by decide) (hts (.fieldLink RX5 40 "AchromatDesk" "plates" "LAchromatDesk$PlateSet;") (by decide +kernel)) (fun _ h9 => h9) rfl dX5_plateCount_1 ?_
  refine va_getN (D := (dC, dI)) (ci := 4) (v := .int (nI np)) (C := RX4) (T := TX4) (N := 2) hx hb hts (by decide +kernel) hown hK hP 1 rfl rfl 1 (by decide) (va_Nw.use (w := .fieldLinkNest "AchromatDesk" 204 "AchromatDesk$PlateSet" "count" "I" "AchromatDesk") rfl (hN.at 5 rfl)) (fun _ h9 => h9) rfl dX5_plateCount_4 ?_
  refine lv_i2l (v := lN np) hx hb dX5_plateCount_7 (nI_l (by omega)) ?_
  exact W.lret hx hb hr (fun t ht hW => ⟨_, rfl, rfl, ht⟩) (fun _ h => absurd h List.not_mem_nil) dX5_plateCount_8

set_option maxHeartbeats 4000000 in
set_option maxRecDepth 100000 in
theorem c_X5_index (l : Launch) (dC : Nat → ClassId) (dI : Nat → Nat → Nat) (cI cJ : ClassId) (q : Nat → Nat) (G : GL) (n : Nat) (hn : n ≤ 20) (x cl : Int32) : Met l yX5_index wsX5_index ({ frames := 1, cells := 0, slots := 0, locals := 22 }) (va_Pc [.ref (q 0), .int x, .int cl] (RO (dC, dI) (tyK cI cJ) ([(q 0, .inr (5, [.ref (q 1), .ref (q 3), .ref (q 8), .ref (q 14), .ref (q 17)])), (q 3, .inr (0, [.ref (q 4), .ref (q 5), .ref (q 6), .ref (q 7), .int (nI n)])), (q 4, .inl (cJ, 20, .inr (.inl (gK G)))), (q 5, .inl (cI, 20, .inl (gF G))), (q 6, .inl (cI, 20, .inl (gD G))), (q 7, .inl (cI, 20, .inl (gC G)))]))) (vp_Sl (fun r => r = sIndex G n x cl)) 0 0 (fun _ => False) := by
  refine Met.ofW (cc := cX5_index) (maxL := 3) (ret := (some .long)) (by decide) rfl ?_
  intro p e s m args below meth c s₁ B hml hv
  obtain ⟨rfl, hP, hK, hN⟩ := hv
  have hx := B.exec
  have hb := B.bytes
  have hr := B.returns
  have hts := atoms_spec (ws := wsX5_index) B.pre
  have hown : s.vm.findClass RX5 = some m.cls := findClass_of_methodNamed B.named
  have hlocks := B.notSynchronized
  have hP : va_P (dC, dI) vwCl [(q 0, .inr (5, [.ref (q 1), .ref (q 3), .ref (q 8), .ref (q 14), .ref (q 17)])), (q 3, .inr (0, [.ref (q 4), .ref (q 5), .ref (q 6), .ref (q 7), .int (nI n)])), (q 4, .inl (cJ, 20, .inr (.inl (gK G)))), (q 5, .inl (cI, 20, .inl (gF G))), (q 6, .inl (cI, 20, .inl (gD G))), (q 7, .inl (cI, 20, .inl (gC G)))] s.heap := hP
  have hl := lv_entry ([.ref (q 0), .int x, .int cl]) (n := 3) (Nat.le_of_ble_eq_true rfl)
  rw [lg_entry_eq]
  generalize (lg_sl ([.ref (q 0), .int x, .int cl]) ++ List.replicate (3 - (lg_sl ([.ref (q 0), .int x, .int cl])).length) Slot.unset).toArray = ls at hl ⊢
  have hl : lv_has ls 3 [(0, .ref (q 0)), (1, .int x), (2, .int cl)] := hl
  refine lv_aload_n hx hb dX5_index_0 rfl (lv_at hl 0 rfl) ?_
  refine va_get (D := (dC, dI)) (ci := 5) (v := .ref (q 3)) (C := RX5) (T := TX5) (N := 5) hx hb hts (by decide +kernel) hown hK hP 0 rfl rfl 1 (by decide) (hts (.fieldLink RX5 19 "AchromatDesk" "glasses" "LAchromatDesk$Catalogue;") (by decide +kernel)) (fun _ h9 => h9) rfl dX5_index_1 ?_
  refine lv_iload_n hx hb dX5_index_4 rfl (lv_at hl 1 rfl) ?_
  refine roVi (As := [.int x]) (rest := []) (c_X0_has l dC dI cI cJ q G n hn x) ⟨hx, hb, hml, hown, hts⟩ (cwV 1 hts gX5_index_X0_has rfl rfl rfl (by decide +kernel) ⟨Nat.le_of_ble_eq_true rfl, Nat.le_of_ble_eq_true rfl⟩) (hP.sub [1, 2, 3, 4, 5] rfl) hK hN (ci := 0) rfl rfl rfl hl.1 rfl (Nat.le_of_ble_eq_true rfl) dX5_index_5 ⟨Nat.zero_le _, Nat.zero_le _⟩ (fun r hr0 => ?_)
  subst hr0
  refine rb_ne (tgt := 15) hx hb dX5_index_8 (by decide) (fun h8 => ?_) (fun h8 => ?_)
  · obtain ⟨g, hg, eg⟩ := hasP_ex (by omega) h8
    subst eg
    refine lv_iload_n hx hb dX5_index_15 rfl (lv_at hl 2 rfl) ?_
    refine stSi (As := [.int cl]) (rest := []) (c_X5_isColour l cl) ⟨hx, hb, hml, hown, hts⟩ (va_cwS 1 hts gX5_index_X5_isColour rfl rfl rfl (by decide +kernel) ⟨Nat.le_of_ble_eq_true rfl, Nat.le_of_ble_eq_true rfl⟩) rfl hl.1 rfl (Nat.le_of_ble_eq_true rfl) dX5_index_16 ⟨Nat.zero_le _, Nat.zero_le _⟩ (fun r hr0 => ?_)
    subst hr0
    refine rb_ne (tgt := 26) hx hb dX5_index_19 (by decide) (fun h19 => ?_) (fun h19 => ?_)
    · refine lv_aload_n hx hb dX5_index_26 rfl (lv_at hl 0 rfl) ?_
      refine va_get (D := (dC, dI)) (ci := 5) (v := .ref (q 3)) (C := RX5) (T := TX5) (N := 5) hx hb hts (by decide +kernel) hown hK hP 0 rfl rfl 1 (by decide) (hts (.fieldLink RX5 19 "AchromatDesk" "glasses" "LAchromatDesk$Catalogue;") (by decide +kernel)) (fun _ h9 => h9) rfl dX5_index_27 ?_
      refine lv_iload_n hx hb dX5_index_30 rfl (lv_at hl 1 rfl) ?_
      refine lv_iload_n hx hb dX5_index_31 rfl (lv_at hl 2 rfl) ?_
      refine roVl (As := [.int (nI g), .int cl]) (rest := []) (c_X0_indexFor l dC dI cI cJ q G n hn g (by omega) cl) ⟨hx, hb, hml, hown, hts⟩ (cwV 2 hts gX5_index_X0_indexFor rfl rfl rfl (by decide +kernel) ⟨Nat.le_of_ble_eq_true rfl, Nat.le_of_ble_eq_true rfl⟩) (hP.sub [1, 2, 3, 4, 5] rfl) hK hN (ci := 0) rfl rfl rfl hl.1 rfl (Nat.le_of_ble_eq_true rfl) dX5_index_32 ⟨Nat.zero_le _, Nat.zero_le _⟩ (fun r hr0 => ?_)
      subst hr0
      exact W.lret hx hb hr (fun t ht hW => ⟨_, rfl, by rw [sIndex, if_pos h8, if_pos h19, ix_nI (by omega)], ht⟩) (fun _ h => absurd h List.not_mem_nil) dX5_index_35
    · refine lv_ldc2 (v := (-9000000000000000001)) hx hb hown (hts (.constantLong RX5 44 (-9000000000000000001)) (by decide +kernel)) dX5_index_22 ?_
      exact W.lret hx hb hr (fun t ht hW => ⟨_, rfl, by rw [sIndex, if_pos h8, if_neg h19], ht⟩) (fun _ h => absurd h List.not_mem_nil) dX5_index_25
  · refine lv_ldc2 (v := (-9000000000000000002)) hx hb hown (hts (.constantLong RX5 97 (-9000000000000000002)) (by decide +kernel)) dX5_index_11 ?_
    exact W.lret hx hb hr (fun t ht hW => ⟨_, rfl, by rw [sIndex, if_neg h8], ht⟩) (fun _ h => absurd h List.not_mem_nil) dX5_index_14

set_option maxHeartbeats 4000000 in
set_option maxRecDepth 100000 in
theorem c_X5_placeByName (l : Launch) (dC : Nat → ClassId) (dI : Nat → Nat → Nat) (cI cJ : ClassId) (q : Nat → Nat) (G : GL) (n : Nat) (hn : n ≤ 20) (x : Int32) : Met l yX5_placeByName wsX5_placeByName ({ frames := 1, cells := 0, slots := 0, locals := 23 }) (va_Pc [.ref (q 0), .int x] (RO (dC, dI) (tyK cI cJ) ([(q 0, .inr (5, [.ref (q 1), .ref (q 3), .ref (q 8), .ref (q 14), .ref (q 17)])), (q 3, .inr (0, [.ref (q 4), .ref (q 5), .ref (q 6), .ref (q 7), .int (nI n)])), (q 4, .inl (cJ, 20, .inr (.inl (gK G)))), (q 5, .inl (cI, 20, .inl (gF G))), (q 6, .inl (cI, 20, .inl (gD G))), (q 7, .inl (cI, 20, .inl (gC G)))]))) (vp_Sl (fun r => r = sPlace G n x)) 0 0 (fun _ => False) := by
  refine Met.ofW (cc := cX5_placeByName) (maxL := 2) (ret := (some .long)) (by decide) rfl ?_
  intro p e s m args below meth c s₁ B hml hv
  obtain ⟨rfl, hP, hK, hN⟩ := hv
  have hx := B.exec
  have hb := B.bytes
  have hr := B.returns
  have hts := atoms_spec (ws := wsX5_placeByName) B.pre
  have hown : s.vm.findClass RX5 = some m.cls := findClass_of_methodNamed B.named
  have hlocks := B.notSynchronized
  have hP : va_P (dC, dI) vwCl [(q 0, .inr (5, [.ref (q 1), .ref (q 3), .ref (q 8), .ref (q 14), .ref (q 17)])), (q 3, .inr (0, [.ref (q 4), .ref (q 5), .ref (q 6), .ref (q 7), .int (nI n)])), (q 4, .inl (cJ, 20, .inr (.inl (gK G)))), (q 5, .inl (cI, 20, .inl (gF G))), (q 6, .inl (cI, 20, .inl (gD G))), (q 7, .inl (cI, 20, .inl (gC G)))] s.heap := hP
  have hl := lv_entry ([.ref (q 0), .int x]) (n := 2) (Nat.le_of_ble_eq_true rfl)
  rw [lg_entry_eq]
  generalize (lg_sl ([.ref (q 0), .int x]) ++ List.replicate (2 - (lg_sl ([.ref (q 0), .int x])).length) Slot.unset).toArray = ls at hl ⊢
  have hl : lv_has ls 2 [(0, .ref (q 0)), (1, .int x)] := hl
  refine lv_aload_n hx hb dX5_placeByName_0 rfl (lv_at hl 0 rfl) ?_
  refine va_get (D := (dC, dI)) (ci := 5) (v := .ref (q 3)) (C := RX5) (T := TX5) (N := 5) hx hb hts (by decide +kernel) hown hK hP 0 rfl rfl 1 (by decide) (hts (.fieldLink RX5 19 "AchromatDesk" "glasses" "LAchromatDesk$Catalogue;") (by decide +kernel)) (fun _ h9 => h9) rfl dX5_placeByName_1 ?_
  refine lv_iload_n hx hb dX5_placeByName_4 rfl (lv_at hl 1 rfl) ?_
  refine roVi (As := [.int x]) (rest := []) (c_X0_has l dC dI cI cJ q G n hn x) ⟨hx, hb, hml, hown, hts⟩ (cwV 1 hts gX5_placeByName_X0_has rfl rfl rfl (by decide +kernel) ⟨Nat.le_of_ble_eq_true rfl, Nat.le_of_ble_eq_true rfl⟩) (hP.sub [1, 2, 3, 4, 5] rfl) hK hN (ci := 0) rfl rfl rfl hl.1 rfl (Nat.le_of_ble_eq_true rfl) dX5_placeByName_5 ⟨Nat.zero_le _, Nat.zero_le _⟩ (fun r hr0 => ?_)
  subst hr0
  refine rb_eq (tgt := 23) hx hb dX5_placeByName_8 (by decide) (fun h8 => ?_) (fun h8 => ?_)
  · refine lv_ldc2 (v := (-9000000000000000002)) hx hb hown (hts (.constantLong RX5 97 (-9000000000000000002)) (by decide +kernel)) dX5_placeByName_23 ?_
    exact W.lret hx hb hr (fun t ht hW => ⟨_, rfl, by rw [sPlace, if_neg h8], ht⟩) (fun _ h => absurd h List.not_mem_nil) dX5_placeByName_26
  · obtain ⟨g, hg, eg⟩ := hasP_ex (by omega) h8
    subst eg
    refine lv_aload_n hx hb dX5_placeByName_11 rfl (lv_at hl 0 rfl) ?_
    refine va_get (D := (dC, dI)) (ci := 5) (v := .ref (q 3)) (C := RX5) (T := TX5) (N := 5) hx hb hts (by decide +kernel) hown hK hP 0 rfl rfl 1 (by decide) (hts (.fieldLink RX5 19 "AchromatDesk" "glasses" "LAchromatDesk$Catalogue;") (by decide +kernel)) (fun _ h9 => h9) rfl dX5_placeByName_12 ?_
    refine lv_iload_n hx hb dX5_placeByName_15 rfl (lv_at hl 1 rfl) ?_
    refine roVi (As := [.int (nI g)]) (rest := []) (c_X0_namesBefore l dC dI cI cJ q G n hn g (by omega)) ⟨hx, hb, hml, hown, hts⟩ (cwV 1 hts gX5_placeByName_X0_namesBefore rfl rfl rfl (by decide +kernel) ⟨Nat.le_of_ble_eq_true rfl, Nat.le_of_ble_eq_true rfl⟩) (hP.sub [1, 2, 3, 4, 5] rfl) hK hN (ci := 0) rfl rfl rfl hl.1 rfl (Nat.le_of_ble_eq_true rfl) dX5_placeByName_16 ⟨Nat.zero_le _, Nat.zero_le _⟩ (fun r hr0 => ?_)
    subst hr0
    have hB := nBef_le (gK G) g n
    refine lv_i2l (v := lN (nBef (gK G) g n)) hx hb dX5_placeByName_19 (nI_l (by omega)) ?_
    refine lv_goto (tgt := 26) hx hb dX5_placeByName_20 (by decide) ?_
    exact W.lret hx hb hr (fun t ht hW => ⟨_, rfl, by rw [sPlace, if_pos h8, ix_nI (by omega)], ht⟩) (fun _ h => absurd h List.not_mem_nil) dX5_placeByName_26

set_option maxHeartbeats 4000000 in
set_option maxRecDepth 100000 in
theorem c_X5_abbe (l : Launch) (dC : Nat → ClassId) (dI : Nat → Nat → Nat) (cI cJ : ClassId) (q : Nat → Nat) (G : GL) (n : Nat) (hn : n ≤ 20) (x : Int32) : Met l yX5_abbe wsX5_abbe ({ frames := 3, cells := 0, slots := 0, locals := 69 }) (va_Pc [.ref (q 0), .int x] (RO (dC, dI) (tyK cI cJ) ([(q 0, .inr (5, [.ref (q 1), .ref (q 3), .ref (q 8), .ref (q 14), .ref (q 17)])), (q 3, .inr (0, [.ref (q 4), .ref (q 5), .ref (q 6), .ref (q 7), .int (nI n)])), (q 4, .inl (cJ, 20, .inr (.inl (gK G)))), (q 5, .inl (cI, 20, .inl (gF G))), (q 6, .inl (cI, 20, .inl (gD G))), (q 7, .inl (cI, 20, .inl (gC G)))]))) (vp_Sl (fun r => r = sAbbe G n x)) 0 0 (fun _ => False) := by
  refine Met.ofW (cc := cX5_abbe) (maxL := 2) (ret := (some .long)) (by decide) rfl ?_
  intro p e s m args below meth c s₁ B hml hv
  obtain ⟨rfl, hP, hK, hN⟩ := hv
  have hx := B.exec
  have hb := B.bytes
  have hr := B.returns
  have hts := atoms_spec (ws := wsX5_abbe) B.pre
  have hown : s.vm.findClass RX5 = some m.cls := findClass_of_methodNamed B.named
  have hlocks := B.notSynchronized
  have hP : va_P (dC, dI) vwCl [(q 0, .inr (5, [.ref (q 1), .ref (q 3), .ref (q 8), .ref (q 14), .ref (q 17)])), (q 3, .inr (0, [.ref (q 4), .ref (q 5), .ref (q 6), .ref (q 7), .int (nI n)])), (q 4, .inl (cJ, 20, .inr (.inl (gK G)))), (q 5, .inl (cI, 20, .inl (gF G))), (q 6, .inl (cI, 20, .inl (gD G))), (q 7, .inl (cI, 20, .inl (gC G)))] s.heap := hP
  have hl := lv_entry ([.ref (q 0), .int x]) (n := 2) (Nat.le_of_ble_eq_true rfl)
  rw [lg_entry_eq]
  generalize (lg_sl ([.ref (q 0), .int x]) ++ List.replicate (2 - (lg_sl ([.ref (q 0), .int x])).length) Slot.unset).toArray = ls at hl ⊢
  have hl : lv_has ls 2 [(0, .ref (q 0)), (1, .int x)] := hl
  refine lv_aload_n hx hb dX5_abbe_0 rfl (lv_at hl 0 rfl) ?_
  refine va_get (D := (dC, dI)) (ci := 5) (v := .ref (q 3)) (C := RX5) (T := TX5) (N := 5) hx hb hts (by decide +kernel) hown hK hP 0 rfl rfl 1 (by decide) (hts (.fieldLink RX5 19 "AchromatDesk" "glasses" "LAchromatDesk$Catalogue;") (by decide +kernel)) (fun _ h9 => h9) rfl dX5_abbe_1 ?_
  refine lv_iload_n hx hb dX5_abbe_4 rfl (lv_at hl 1 rfl) ?_
  refine roVi (As := [.int x]) (rest := []) (c_X0_has l dC dI cI cJ q G n hn x) ⟨hx, hb, hml, hown, hts⟩ (cwV 1 hts gX5_abbe_X0_has rfl rfl rfl (by decide +kernel) ⟨Nat.le_of_ble_eq_true rfl, Nat.le_of_ble_eq_true rfl⟩) (hP.sub [1, 2, 3, 4, 5] rfl) hK hN (ci := 0) rfl rfl rfl hl.1 rfl (Nat.le_of_ble_eq_true rfl) dX5_abbe_5 ⟨Nat.zero_le _, Nat.zero_le _⟩ (fun r hr0 => ?_)
  subst hr0
  refine rb_eq (tgt := 22) hx hb dX5_abbe_8 (by decide) (fun h8 => ?_) (fun h8 => ?_)
  · refine lv_ldc2 (v := (-9000000000000000002)) hx hb hown (hts (.constantLong RX5 97 (-9000000000000000002)) (by decide +kernel)) dX5_abbe_22 ?_
    exact W.lret hx hb hr (fun t ht hW => ⟨_, rfl, by rw [sAbbe, if_neg h8], ht⟩) (fun _ h => absurd h List.not_mem_nil) dX5_abbe_25
  · obtain ⟨g, hg, eg⟩ := hasP_ex (by omega) h8
    subst eg
    refine lv_aload_n hx hb dX5_abbe_11 rfl (lv_at hl 0 rfl) ?_
    refine va_get (D := (dC, dI)) (ci := 5) (v := .ref (q 3)) (C := RX5) (T := TX5) (N := 5) hx hb hts (by decide +kernel) hown hK hP 0 rfl rfl 1 (by decide) (hts (.fieldLink RX5 19 "AchromatDesk" "glasses" "LAchromatDesk$Catalogue;") (by decide +kernel)) (fun _ h9 => h9) rfl dX5_abbe_12 ?_
    refine lv_iload_n hx hb dX5_abbe_15 rfl (lv_at hl 1 rfl) ?_
    refine roVl (As := [.int (nI g)]) (rest := []) (c_X0_abbeNumber l dC dI cI cJ q G n hn g (by omega)) ⟨hx, hb, hml, hown, hts⟩ (cwV 1 hts gX5_abbe_X0_abbeNumber rfl rfl rfl (by decide +kernel) ⟨Nat.le_of_ble_eq_true rfl, Nat.le_of_ble_eq_true rfl⟩) (hP.sub [1, 2, 3, 4, 5] rfl) hK hN (ci := 0) rfl rfl rfl hl.1 rfl (Nat.le_of_ble_eq_true rfl) dX5_abbe_16 ⟨Nat.zero_le _, Nat.zero_le _⟩ (fun r hr0 => ?_)
    subst hr0
    refine lv_goto (tgt := 25) hx hb dX5_abbe_19 (by decide) ?_
    exact W.lret hx hb hr (fun t ht hW => ⟨_, rfl, by rw [sAbbe, if_pos h8, ix_nI (by omega)], ht⟩) (fun _ h => absurd h List.not_mem_nil) dX5_abbe_25

set_option maxHeartbeats 4000000 in
set_option maxRecDepth 100000 in
theorem c_X5_partial (l : Launch) (dC : Nat → ClassId) (dI : Nat → Nat → Nat) (cI cJ : ClassId) (q : Nat → Nat) (G : GL) (n : Nat) (hn : n ≤ 20) (x : Int32) : Met l yX5_partial wsX5_partial ({ frames := 2, cells := 0, slots := 0, locals := 48 }) (va_Pc [.ref (q 0), .int x] (RO (dC, dI) (tyK cI cJ) ([(q 0, .inr (5, [.ref (q 1), .ref (q 3), .ref (q 8), .ref (q 14), .ref (q 17)])), (q 3, .inr (0, [.ref (q 4), .ref (q 5), .ref (q 6), .ref (q 7), .int (nI n)])), (q 4, .inl (cJ, 20, .inr (.inl (gK G)))), (q 5, .inl (cI, 20, .inl (gF G))), (q 6, .inl (cI, 20, .inl (gD G))), (q 7, .inl (cI, 20, .inl (gC G)))]))) (vp_Sl (fun r => r = sPart G n x)) 0 0 (fun _ => False) := by
  refine Met.ofW (cc := cX5_partial) (maxL := 2) (ret := (some .long)) (by decide) rfl ?_
  intro p e s m args below meth c s₁ B hml hv
  obtain ⟨rfl, hP, hK, hN⟩ := hv
  have hx := B.exec
  have hb := B.bytes
  have hr := B.returns
  have hts := atoms_spec (ws := wsX5_partial) B.pre
  have hown : s.vm.findClass RX5 = some m.cls := findClass_of_methodNamed B.named
  have hlocks := B.notSynchronized
  have hP : va_P (dC, dI) vwCl [(q 0, .inr (5, [.ref (q 1), .ref (q 3), .ref (q 8), .ref (q 14), .ref (q 17)])), (q 3, .inr (0, [.ref (q 4), .ref (q 5), .ref (q 6), .ref (q 7), .int (nI n)])), (q 4, .inl (cJ, 20, .inr (.inl (gK G)))), (q 5, .inl (cI, 20, .inl (gF G))), (q 6, .inl (cI, 20, .inl (gD G))), (q 7, .inl (cI, 20, .inl (gC G)))] s.heap := hP
  have hl := lv_entry ([.ref (q 0), .int x]) (n := 2) (Nat.le_of_ble_eq_true rfl)
  rw [lg_entry_eq]
  generalize (lg_sl ([.ref (q 0), .int x]) ++ List.replicate (2 - (lg_sl ([.ref (q 0), .int x])).length) Slot.unset).toArray = ls at hl ⊢
  have hl : lv_has ls 2 [(0, .ref (q 0)), (1, .int x)] := hl
  refine lv_aload_n hx hb dX5_partial_0 rfl (lv_at hl 0 rfl) ?_
  refine va_get (D := (dC, dI)) (ci := 5) (v := .ref (q 3)) (C := RX5) (T := TX5) (N := 5) hx hb hts (by decide +kernel) hown hK hP 0 rfl rfl 1 (by decide) (hts (.fieldLink RX5 19 "AchromatDesk" "glasses" "LAchromatDesk$Catalogue;") (by decide +kernel)) (fun _ h9 => h9) rfl dX5_partial_1 ?_
  refine lv_iload_n hx hb dX5_partial_4 rfl (lv_at hl 1 rfl) ?_
  refine roVi (As := [.int x]) (rest := []) (c_X0_has l dC dI cI cJ q G n hn x) ⟨hx, hb, hml, hown, hts⟩ (cwV 1 hts gX5_partial_X0_has rfl rfl rfl (by decide +kernel) ⟨Nat.le_of_ble_eq_true rfl, Nat.le_of_ble_eq_true rfl⟩) (hP.sub [1, 2, 3, 4, 5] rfl) hK hN (ci := 0) rfl rfl rfl hl.1 rfl (Nat.le_of_ble_eq_true rfl) dX5_partial_5 ⟨Nat.zero_le _, Nat.zero_le _⟩ (fun r hr0 => ?_)
  subst hr0
  refine rb_ne (tgt := 15) hx hb dX5_partial_8 (by decide) (fun h8 => ?_) (fun h8 => ?_)
  · obtain ⟨g, hg, eg⟩ := hasP_ex (by omega) h8
    subst eg
    refine lv_ldc2 (v := 100000) hx hb hown (hts (.constantLong RX5 124 (100000)) (by decide +kernel)) dX5_partial_15 ?_
    refine lv_aload_n hx hb dX5_partial_18 rfl (lv_at hl 0 rfl) ?_
    refine va_get (D := (dC, dI)) (ci := 5) (v := .ref (q 3)) (C := RX5) (T := TX5) (N := 5) hx hb hts (by decide +kernel) hown hK hP 0 rfl rfl 1 (by decide) (hts (.fieldLink RX5 19 "AchromatDesk" "glasses" "LAchromatDesk$Catalogue;") (by decide +kernel)) (fun _ h9 => h9) rfl dX5_partial_19 ?_
    refine lv_iload_n hx hb dX5_partial_22 rfl (lv_at hl 1 rfl) ?_
    refine roVl (As := [.int (nI g)]) (rest := [.long 100000]) (c_X0_valueD l dC dI cI cJ q G n hn g (by omega)) ⟨hx, hb, hml, hown, hts⟩ (cwV 1 hts gX5_partial_X0_valueD rfl rfl rfl (by decide +kernel) ⟨Nat.le_of_ble_eq_true rfl, Nat.le_of_ble_eq_true rfl⟩) (hP.sub [1, 2, 3, 4, 5] rfl) hK hN (ci := 0) rfl rfl rfl hl.1 rfl (Nat.le_of_ble_eq_true rfl) dX5_partial_23 ⟨Nat.zero_le _, Nat.zero_le _⟩ (fun r hr0 => ?_)
    subst hr0
    refine lv_lmul hx hb dX5_partial_26 ?_
    refine lv_aload_n hx hb dX5_partial_27 rfl (lv_at hl 0 rfl) ?_
    refine va_get (D := (dC, dI)) (ci := 5) (v := .ref (q 3)) (C := RX5) (T := TX5) (N := 5) hx hb hts (by decide +kernel) hown hK hP 0 rfl rfl 1 (by decide) (hts (.fieldLink RX5 19 "AchromatDesk" "glasses" "LAchromatDesk$Catalogue;") (by decide +kernel)) (fun _ h9 => h9) rfl dX5_partial_28 ?_
    refine lv_iload_n hx hb dX5_partial_31 rfl (lv_at hl 1 rfl) ?_
    refine roVl (As := [.int (nI g)]) (rest := [.long (100000 * (vD G g))]) (c_X0_valueB l dC dI cI cJ q G n hn g (by omega)) ⟨hx, hb, hml, hown, hts⟩ (cwV 1 hts gX5_partial_X0_valueB rfl rfl rfl (by decide +kernel) ⟨Nat.le_of_ble_eq_true rfl, Nat.le_of_ble_eq_true rfl⟩) (hP.sub [1, 2, 3, 4, 5] rfl) hK hN (ci := 0) rfl rfl rfl hl.1 rfl (Nat.le_of_ble_eq_true rfl) dX5_partial_32 ⟨Nat.zero_le _, Nat.zero_le _⟩ (fun r hr0 => ?_)
    subst hr0
    refine stSl (As := [.long (100000 * (vD G g)), .long (vB G g)]) (rest := []) (c_X5_floorQuotient l (100000 * (vD G g)) (vB G g)) ⟨hx, hb, hml, hown, hts⟩ (va_cwS 2 hts gX5_partial_X5_floorQuotient rfl rfl rfl (by decide +kernel) ⟨Nat.le_of_ble_eq_true rfl, Nat.le_of_ble_eq_true rfl⟩) rfl hl.1 rfl (Nat.le_of_ble_eq_true rfl) dX5_partial_35 ⟨Nat.zero_le _, Nat.zero_le _⟩ (fun r hr0 => ?_)
    subst hr0
    exact W.lret hx hb hr (fun t ht hW => ⟨_, rfl, by rw [sPart, if_pos h8, ix_nI (by omega)]; rfl, ht⟩) (fun _ h => absurd h List.not_mem_nil) dX5_partial_38
  · refine lv_ldc2 (v := (-9000000000000000002)) hx hb hown (hts (.constantLong RX5 97 (-9000000000000000002)) (by decide +kernel)) dX5_partial_11 ?_
    exact W.lret hx hb hr (fun t ht hW => ⟨_, rfl, by rw [sPart, if_neg h8], ht⟩) (fun _ h => absurd h List.not_mem_nil) dX5_partial_14

set_option maxHeartbeats 4000000 in
set_option maxRecDepth 100000 in
theorem c_X5_glassWithAbbe (l : Launch) (dC : Nat → ClassId) (dI : Nat → Nat → Nat) (cI cJ : ClassId) (q : Nat → Nat) (G : GL) (n : Nat) (hn : n ≤ 20) (v : Int32) : Met l yX5_glassWithAbbe wsX5_glassWithAbbe ({ frames := 4, cells := 0, slots := 0, locals := 96 }) (va_Pc [.ref (q 0), .int v] (RO (dC, dI) (tyK cI cJ) ([(q 0, .inr (5, [.ref (q 1), .ref (q 3), .ref (q 8), .ref (q 14), .ref (q 17)])), (q 3, .inr (0, [.ref (q 4), .ref (q 5), .ref (q 6), .ref (q 7), .int (nI n)])), (q 4, .inl (cJ, 20, .inr (.inl (gK G)))), (q 5, .inl (cI, 20, .inl (gF G))), (q 6, .inl (cI, 20, .inl (gD G))), (q 7, .inl (cI, 20, .inl (gC G)))]))) (vp_Sl (fun r => r = sWith G n v)) 0 0 (fun _ => False) := by
  refine Met.ofW (cc := cX5_glassWithAbbe) (maxL := 3) (ret := (some .long)) (by decide) rfl ?_
  intro p e s m args below meth c s₁ B hml hv
  obtain ⟨rfl, hP, hK, hN⟩ := hv
  have hx := B.exec
  have hb := B.bytes
  have hr := B.returns
  have hts := atoms_spec (ws := wsX5_glassWithAbbe) B.pre
  have hown : s.vm.findClass RX5 = some m.cls := findClass_of_methodNamed B.named
  have hlocks := B.notSynchronized
  have hP : va_P (dC, dI) vwCl [(q 0, .inr (5, [.ref (q 1), .ref (q 3), .ref (q 8), .ref (q 14), .ref (q 17)])), (q 3, .inr (0, [.ref (q 4), .ref (q 5), .ref (q 6), .ref (q 7), .int (nI n)])), (q 4, .inl (cJ, 20, .inr (.inl (gK G)))), (q 5, .inl (cI, 20, .inl (gF G))), (q 6, .inl (cI, 20, .inl (gD G))), (q 7, .inl (cI, 20, .inl (gC G)))] s.heap := hP
  have hl := lv_entry ([.ref (q 0), .int v]) (n := 3) (Nat.le_of_ble_eq_true rfl)
  rw [lg_entry_eq]
  generalize (lg_sl ([.ref (q 0), .int v]) ++ List.replicate (3 - (lg_sl ([.ref (q 0), .int v])).length) Slot.unset).toArray = ls at hl ⊢
  have hl : lv_has ls 3 [(0, .ref (q 0)), (1, .int v)] := hl
  refine lv_aload_n hx hb dX5_glassWithAbbe_0 rfl (lv_at hl 0 rfl) ?_
  refine va_get (D := (dC, dI)) (ci := 5) (v := .ref (q 3)) (C := RX5) (T := TX5) (N := 5) hx hb hts (by decide +kernel) hown hK hP 0 rfl rfl 1 (by decide) (hts (.fieldLink RX5 19 "AchromatDesk" "glasses" "LAchromatDesk$Catalogue;") (by decide +kernel)) (fun _ h9 => h9) rfl dX5_glassWithAbbe_1 ?_
  refine lv_iload_n hx hb dX5_glassWithAbbe_4 rfl (lv_at hl 1 rfl) ?_
  refine roVi (As := [.int v]) (rest := []) (c_X0_leastAbbeFrom l dC dI cI cJ q G n hn v) ⟨hx, hb, hml, hown, hts⟩ (cwV 1 hts gX5_glassWithAbbe_X0_leastAbbeFrom rfl rfl rfl (by decide +kernel) ⟨Nat.le_of_ble_eq_true rfl, Nat.le_of_ble_eq_true rfl⟩) (hP.sub [1, 2, 3, 4, 5] rfl) hK hN (ci := 0) rfl rfl rfl hl.1 rfl (Nat.le_of_ble_eq_true rfl) dX5_glassWithAbbe_5 ⟨Nat.zero_le _, Nat.zero_le _⟩ (fun r hr0 => ?_)
  subst hr0
  refine lv_istore_n (lv' := [(2, .int ((lAbb G v.toInt64 n).1)), (0, .ref (q 0)), (1, .int v)]) hx hb dX5_glassWithAbbe_8 rfl hl (by decide) rfl (fun ls hl => ?_)
  refine lv_iload_n hx hb dX5_glassWithAbbe_9 rfl (lv_at hl 0 rfl) ?_
  refine lv_if_ge (tgt := 19) hx hb dX5_glassWithAbbe_10 (by decide) (fun h10 => ?_) (fun h10 => ?_)
  · refine lv_iload_n hx hb dX5_glassWithAbbe_19 rfl (lv_at hl 0 rfl) ?_
    refine lv_i2l (v := ((lAbb G v.toInt64 n).1).toInt64) hx hb dX5_glassWithAbbe_20 rfl ?_
    exact W.lret hx hb hr (fun t ht hW => ⟨_, rfl, by first | rw [sWith, if_neg (Int32.not_lt.mpr h10)] | rw [sWith, if_pos (Int32.not_le.mp h10)], ht⟩) (fun _ h => absurd h List.not_mem_nil) dX5_glassWithAbbe_21
  · refine lv_ldc2 (v := (-9000000000000000008)) hx hb hown (hts (.constantLong RX5 139 (-9000000000000000008)) (by decide +kernel)) dX5_glassWithAbbe_13 ?_
    refine lv_goto (tgt := 21) hx hb dX5_glassWithAbbe_16 (by decide) ?_
    exact W.lret hx hb hr (fun t ht hW => ⟨_, rfl, by first | rw [sWith, if_neg (Int32.not_lt.mpr h10)] | rw [sWith, if_pos (Int32.not_le.mp h10)], ht⟩) (fun _ h => absurd h List.not_mem_nil) dX5_glassWithAbbe_21

set_option maxHeartbeats 4000000 in
set_option maxRecDepth 100000 in
theorem c_X5_doubletPower (l : Launch) (dC : Nat → ClassId) (dI : Nat → Nat → Nat) (cI cJ : ClassId) (q : Nat → Nat) (G : GL) (n : Nat) (hn : n ≤ 20) (i j w v : Int32) : Met l yX5_doubletPower wsX5_doubletPower ({ frames := 2, cells := 0, slots := 0, locals := 48 }) (va_Pc [.ref (q 0), .int i, .int j, .int w, .int v] (RO (dC, dI) (tyK cI cJ) ([(q 0, .inr (5, [.ref (q 1), .ref (q 3), .ref (q 8), .ref (q 14), .ref (q 17)])), (q 3, .inr (0, [.ref (q 4), .ref (q 5), .ref (q 6), .ref (q 7), .int (nI n)])), (q 4, .inl (cJ, 20, .inr (.inl (gK G)))), (q 5, .inl (cI, 20, .inl (gF G))), (q 6, .inl (cI, 20, .inl (gD G))), (q 7, .inl (cI, 20, .inl (gC G)))]))) (vp_Sl (fun r => r = sDbl G n i j w v)) 0 0 (fun _ => False) := by
  refine Met.ofW (cc := cX5_doubletPower) (maxL := 9) (ret := (some .long)) (by decide) rfl ?_
  intro p e s m args below meth c s₁ B hml hv
  obtain ⟨rfl, hP, hK, hN⟩ := hv
  have hx := B.exec
  have hb := B.bytes
  have hr := B.returns
  have hts := atoms_spec (ws := wsX5_doubletPower) B.pre
  have hown : s.vm.findClass RX5 = some m.cls := findClass_of_methodNamed B.named
  have hlocks := B.notSynchronized
  have hP : va_P (dC, dI) vwCl [(q 0, .inr (5, [.ref (q 1), .ref (q 3), .ref (q 8), .ref (q 14), .ref (q 17)])), (q 3, .inr (0, [.ref (q 4), .ref (q 5), .ref (q 6), .ref (q 7), .int (nI n)])), (q 4, .inl (cJ, 20, .inr (.inl (gK G)))), (q 5, .inl (cI, 20, .inl (gF G))), (q 6, .inl (cI, 20, .inl (gD G))), (q 7, .inl (cI, 20, .inl (gC G)))] s.heap := hP
  have hl := lv_entry ([.ref (q 0), .int i, .int j, .int w, .int v]) (n := 9) (Nat.le_of_ble_eq_true rfl)
  rw [lg_entry_eq]
  generalize (lg_sl ([.ref (q 0), .int i, .int j, .int w, .int v]) ++ List.replicate (9 - (lg_sl ([.ref (q 0), .int i, .int j, .int w, .int v])).length) Slot.unset).toArray = ls at hl ⊢
  have hl : lv_has ls 9 [(0, .ref (q 0)), (1, .int i), (2, .int j), (3, .int w), (4, .int v)] := hl
  refine lv_aload_n hx hb dX5_doubletPower_0 rfl (lv_at hl 0 rfl) ?_
  refine va_get (D := (dC, dI)) (ci := 5) (v := .ref (q 3)) (C := RX5) (T := TX5) (N := 5) hx hb hts (by decide +kernel) hown hK hP 0 rfl rfl 1 (by decide) (hts (.fieldLink RX5 19 "AchromatDesk" "glasses" "LAchromatDesk$Catalogue;") (by decide +kernel)) (fun _ h9 => h9) rfl dX5_doubletPower_1 ?_
  refine lv_iload_n hx hb dX5_doubletPower_4 rfl (lv_at hl 1 rfl) ?_
  refine roVi (As := [.int i]) (rest := []) (c_X0_has l dC dI cI cJ q G n hn i) ⟨hx, hb, hml, hown, hts⟩ (cwV 1 hts gX5_doubletPower_X0_has rfl rfl rfl (by decide +kernel) ⟨Nat.le_of_ble_eq_true rfl, Nat.le_of_ble_eq_true rfl⟩) (hP.sub [1, 2, 3, 4, 5] rfl) hK hN (ci := 0) rfl rfl rfl hl.1 rfl (Nat.le_of_ble_eq_true rfl) dX5_doubletPower_5 ⟨Nat.zero_le _, Nat.zero_le _⟩ (fun r hr0 => ?_)
  subst hr0
  refine rb_eq (tgt := 22) hx hb dX5_doubletPower_8 (by decide) (fun h8 => ?_) (fun h8 => ?_)
  · refine lv_ldc2 (v := (-9000000000000000002)) hx hb hown (hts (.constantLong RX5 97 (-9000000000000000002)) (by decide +kernel)) dX5_doubletPower_22 ?_
    exact W.lret hx hb hr (fun t ht hW => ⟨_, rfl, by rw [sDbl, if_neg (fun w => h8 w.1)], ht⟩) (fun _ h => absurd h List.not_mem_nil) dX5_doubletPower_25
  · obtain ⟨g, hg, eg⟩ := hasP_ex (by omega) h8
    subst eg
    refine lv_aload_n hx hb dX5_doubletPower_11 rfl (lv_at hl 0 rfl) ?_
    refine va_get (D := (dC, dI)) (ci := 5) (v := .ref (q 3)) (C := RX5) (T := TX5) (N := 5) hx hb hts (by decide +kernel) hown hK hP 0 rfl rfl 1 (by decide) (hts (.fieldLink RX5 19 "AchromatDesk" "glasses" "LAchromatDesk$Catalogue;") (by decide +kernel)) (fun _ h9 => h9) rfl dX5_doubletPower_12 ?_
    refine lv_iload_n hx hb dX5_doubletPower_15 rfl (lv_at hl 2 rfl) ?_
    refine roVi (As := [.int j]) (rest := []) (c_X0_has l dC dI cI cJ q G n hn j) ⟨hx, hb, hml, hown, hts⟩ (cwV 1 hts gX5_doubletPower_X0_has rfl rfl rfl (by decide +kernel) ⟨Nat.le_of_ble_eq_true rfl, Nat.le_of_ble_eq_true rfl⟩) (hP.sub [1, 2, 3, 4, 5] rfl) hK hN (ci := 0) rfl rfl rfl hl.1 rfl (Nat.le_of_ble_eq_true rfl) dX5_doubletPower_16 ⟨Nat.zero_le _, Nat.zero_le _⟩ (fun r hr0 => ?_)
    subst hr0
    refine rb_ne (tgt := 26) hx hb dX5_doubletPower_19 (by decide) (fun h19 => ?_) (fun h19 => ?_)
    · obtain ⟨g2, hg2, eg2⟩ := hasP_ex (by omega) h19
      subst eg2
      refine lv_iload_n hx hb dX5_doubletPower_26 rfl (lv_at hl 3 rfl) ?_
      refine stSi (As := [.int w]) (rest := []) (c_X5_isDesignPower l w) ⟨hx, hb, hml, hown, hts⟩ (va_cwS 1 hts gX5_doubletPower_X5_isDesignPower rfl rfl rfl (by decide +kernel) ⟨Nat.le_of_ble_eq_true rfl, Nat.le_of_ble_eq_true rfl⟩) rfl hl.1 rfl (Nat.le_of_ble_eq_true rfl) dX5_doubletPower_27 ⟨Nat.zero_le _, Nat.zero_le _⟩ (fun r hr0 => ?_)
      subst hr0
      refine rb_eq (tgt := 44) hx hb dX5_doubletPower_30 (by decide) (fun h30 => ?_) (fun h30 => ?_)
      · refine lv_ldc2 (v := (-9000000000000000001)) hx hb hown (hts (.constantLong RX5 44 (-9000000000000000001)) (by decide +kernel)) dX5_doubletPower_44 ?_
        exact W.lret hx hb hr (fun t ht hW => ⟨_, rfl, by rw [sDbl, if_pos ⟨h8, h19⟩, if_neg (fun w => h30 w.1)], ht⟩) (fun _ h => absurd h List.not_mem_nil) dX5_doubletPower_47
      · refine lv_iload hx hb dX5_doubletPower_33 (lv_at hl 4 rfl) ?_
        refine lv_if_lt (tgt := 44) hx hb dX5_doubletPower_35 (by decide) (fun h35 => ?_) (fun h35 => ?_)
        · refine lv_ldc2 (v := (-9000000000000000001)) hx hb hown (hts (.constantLong RX5 44 (-9000000000000000001)) (by decide +kernel)) dX5_doubletPower_44 ?_
          exact W.lret hx hb hr (fun t ht hW => ⟨_, rfl, by rw [sDbl, if_pos ⟨h8, h19⟩, if_neg (fun w => absurd w.2.1 (Int32.not_le.mpr h35))], ht⟩) (fun _ h => absurd h List.not_mem_nil) dX5_doubletPower_47
        · refine lv_iload hx hb dX5_doubletPower_38 (lv_at hl 4 rfl) ?_
          refine lv_iconst (v := 1) hx hb dX5_doubletPower_40 (by decide) ?_
          refine lv_icmp_le (tgt := 48) hx hb dX5_doubletPower_41 (by decide) (fun h41 => ?_) (fun h41 => ?_)
          · refine lv_aload_n hx hb dX5_doubletPower_48 rfl (lv_at hl 0 rfl) ?_
            refine va_get (D := (dC, dI)) (ci := 5) (v := .ref (q 3)) (C := RX5) (T := TX5) (N := 5) hx hb hts (by decide +kernel) hown hK hP 0 rfl rfl 1 (by decide) (hts (.fieldLink RX5 19 "AchromatDesk" "glasses" "LAchromatDesk$Catalogue;") (by decide +kernel)) (fun _ h9 => h9) rfl dX5_doubletPower_49 ?_
            refine lv_iload_n hx hb dX5_doubletPower_52 rfl (lv_at hl 1 rfl) ?_
            refine lv_iload_n hx hb dX5_doubletPower_53 rfl (lv_at hl 2 rfl) ?_
            refine roVl (As := [.int (nI g), .int (nI g2)]) (rest := []) (c_X0_valueE l dC dI cI cJ q G n hn g g2 (by omega) (by omega)) ⟨hx, hb, hml, hown, hts⟩ (cwV 2 hts gX5_doubletPower_X0_valueE rfl rfl rfl (by decide +kernel) ⟨Nat.le_of_ble_eq_true rfl, Nat.le_of_ble_eq_true rfl⟩) (hP.sub [1, 2, 3, 4, 5] rfl) hK hN (ci := 0) rfl rfl rfl hl.1 rfl (Nat.le_of_ble_eq_true rfl) dX5_doubletPower_54 ⟨Nat.zero_le _, Nat.zero_le _⟩ (fun r hr0 => ?_)
            subst hr0
            refine lv_lstore (lv' := [(5, .long (vE G g g2)), (0, .ref (q 0)), (1, .int (nI g)), (2, .int (nI g2)), (3, .int w), (4, .int v)]) hx hb dX5_doubletPower_57 hl (by decide) rfl (fun ls hl => ?_)
            refine lv_lload hx hb dX5_doubletPower_59 (lv_at hl 0 rfl) ?_
            refine lv_lconst (v := 0) hx hb dX5_doubletPower_61 (by decide) ?_
            refine rl_ifne (tgt := 70) hx hb dX5_doubletPower_62 dX5_doubletPower_63 (by decide) (fun h62 => ?_) (fun h62 => ?_)
            · refine rjoin (nL := 9) 113 [(5, .long (vE G g g2)), (0, .ref (q 0)), (1, .int (nI g)), (2, .int (nI g2)), (3, .int w), (4, .int v)] [.long (if v = 0 then vA G g * vB G g2 else -(vA G g2) * vB G g)] (fun ls hl => ?_) (fun hj113 => ?_)
              · refine lv_lstore (lv' := [(7, .long (if v = 0 then vA G g * vB G g2 else -(vA G g2) * vB G g)), (5, .long (vE G g g2)), (0, .ref (q 0)), (1, .int (nI g)), (2, .int (nI g2)), (3, .int w), (4, .int v)]) hx hb dX5_doubletPower_113 hl (by decide) rfl (fun ls hl => ?_)
                refine lv_ldc2 (v := 1000) hx hb hown (hts (.constantLong RX5 150 (1000)) (by decide +kernel)) dX5_doubletPower_115 ?_
                refine lv_iload_n hx hb dX5_doubletPower_118 rfl (lv_at hl 5 rfl) ?_
                refine lv_i2l (v := w.toInt64) hx hb dX5_doubletPower_119 rfl ?_
                refine lv_lmul hx hb dX5_doubletPower_120 ?_
                refine lv_lload hx hb dX5_doubletPower_121 (lv_at hl 0 rfl) ?_
                refine lv_lmul hx hb dX5_doubletPower_123 ?_
                refine lv_lload hx hb dX5_doubletPower_124 (lv_at hl 1 rfl) ?_
                refine stSl (As := [.long ((1000 * w.toInt64) * (if v = 0 then vA G g * vB G g2 else -(vA G g2) * vB G g)), .long (vE G g g2)]) (rest := []) (c_X5_floorQuotient l ((1000 * w.toInt64) * (if v = 0 then vA G g * vB G g2 else -(vA G g2) * vB G g)) (vE G g g2)) ⟨hx, hb, hml, hown, hts⟩ (va_cwS 2 hts gX5_doubletPower_X5_floorQuotient rfl rfl rfl (by decide +kernel) ⟨Nat.le_of_ble_eq_true rfl, Nat.le_of_ble_eq_true rfl⟩) rfl hl.1 rfl (Nat.le_of_ble_eq_true rfl) dX5_doubletPower_126 ⟨Nat.zero_le _, Nat.zero_le _⟩ (fun r hr0 => ?_)
                subst hr0
                exact W.lret hx hb hr (fun t ht hW => ⟨_, rfl, by rw [sDbl, if_pos ⟨h8, h19⟩, if_pos ⟨h30, Int32.not_lt.mp h35, h41⟩, ix_nI (by omega), ix_nI (by omega), if_neg h62], ht⟩) (fun _ h => absurd h List.not_mem_nil) dX5_doubletPower_129
              · refine lv_iload hx hb dX5_doubletPower_70 (lv_at hl 5 rfl) ?_
                refine lv_if_ne (tgt := 95) hx hb dX5_doubletPower_72 (by decide) (fun h72 => ?_) (fun h72 => ?_)
                · refine lv_aload_n hx hb dX5_doubletPower_95 rfl (lv_at hl 1 rfl) ?_
                  refine va_get (D := (dC, dI)) (ci := 5) (v := .ref (q 3)) (C := RX5) (T := TX5) (N := 5) hx hb hts (by decide +kernel) hown hK hP 0 rfl rfl 1 (by decide) (hts (.fieldLink RX5 19 "AchromatDesk" "glasses" "LAchromatDesk$Catalogue;") (by decide +kernel)) (fun _ h9 => h9) rfl dX5_doubletPower_96 ?_
                  refine lv_iload_n hx hb dX5_doubletPower_99 rfl (lv_at hl 3 rfl) ?_
                  refine roVl (As := [.int (nI g2)]) (rest := []) (c_X0_valueA l dC dI cI cJ q G n hn g2 (by omega)) ⟨hx, hb, hml, hown, hts⟩ (cwV 1 hts gX5_doubletPower_X0_valueA rfl rfl rfl (by decide +kernel) ⟨Nat.le_of_ble_eq_true rfl, Nat.le_of_ble_eq_true rfl⟩) (hP.sub [1, 2, 3, 4, 5] rfl) hK hN (ci := 0) rfl rfl rfl hl.1 rfl (Nat.le_of_ble_eq_true rfl) dX5_doubletPower_100 ⟨Nat.zero_le _, Nat.zero_le _⟩ (fun r hr0 => ?_)
                  subst hr0
                  refine lv_lneg hx hb dX5_doubletPower_103 ?_
                  refine lv_aload_n hx hb dX5_doubletPower_104 rfl (lv_at hl 1 rfl) ?_
                  refine va_get (D := (dC, dI)) (ci := 5) (v := .ref (q 3)) (C := RX5) (T := TX5) (N := 5) hx hb hts (by decide +kernel) hown hK hP 0 rfl rfl 1 (by decide) (hts (.fieldLink RX5 19 "AchromatDesk" "glasses" "LAchromatDesk$Catalogue;") (by decide +kernel)) (fun _ h9 => h9) rfl dX5_doubletPower_105 ?_
                  refine lv_iload_n hx hb dX5_doubletPower_108 rfl (lv_at hl 2 rfl) ?_
                  refine roVl (As := [.int (nI g)]) (rest := [.long (-(vA G g2))]) (c_X0_valueB l dC dI cI cJ q G n hn g (by omega)) ⟨hx, hb, hml, hown, hts⟩ (cwV 1 hts gX5_doubletPower_X0_valueB rfl rfl rfl (by decide +kernel) ⟨Nat.le_of_ble_eq_true rfl, Nat.le_of_ble_eq_true rfl⟩) (hP.sub [1, 2, 3, 4, 5] rfl) hK hN (ci := 0) rfl rfl rfl hl.1 rfl (Nat.le_of_ble_eq_true rfl) dX5_doubletPower_109 ⟨Nat.zero_le _, Nat.zero_le _⟩ (fun r hr0 => ?_)
                  subst hr0
                  refine lv_lmul hx hb dX5_doubletPower_112 ?_
                  refine rw_topl (show ((-(vA G g2)) * (vB G g) : Int64) = (if v = 0 then vA G g * vB G g2 else -(vA G g2) * vB G g : Int64) from by first | rw [if_pos h72] | rw [if_neg h72]) ?_
                  exact hj113 ls (lv_sub hl [0, 1, 2, 3, 4, 5] rfl)
                · refine lv_aload_n hx hb dX5_doubletPower_75 rfl (lv_at hl 1 rfl) ?_
                  refine va_get (D := (dC, dI)) (ci := 5) (v := .ref (q 3)) (C := RX5) (T := TX5) (N := 5) hx hb hts (by decide +kernel) hown hK hP 0 rfl rfl 1 (by decide) (hts (.fieldLink RX5 19 "AchromatDesk" "glasses" "LAchromatDesk$Catalogue;") (by decide +kernel)) (fun _ h9 => h9) rfl dX5_doubletPower_76 ?_
                  refine lv_iload_n hx hb dX5_doubletPower_79 rfl (lv_at hl 2 rfl) ?_
                  refine roVl (As := [.int (nI g)]) (rest := []) (c_X0_valueA l dC dI cI cJ q G n hn g (by omega)) ⟨hx, hb, hml, hown, hts⟩ (cwV 1 hts gX5_doubletPower_X0_valueA rfl rfl rfl (by decide +kernel) ⟨Nat.le_of_ble_eq_true rfl, Nat.le_of_ble_eq_true rfl⟩) (hP.sub [1, 2, 3, 4, 5] rfl) hK hN (ci := 0) rfl rfl rfl hl.1 rfl (Nat.le_of_ble_eq_true rfl) dX5_doubletPower_80 ⟨Nat.zero_le _, Nat.zero_le _⟩ (fun r hr0 => ?_)
                  subst hr0
                  refine lv_aload_n hx hb dX5_doubletPower_83 rfl (lv_at hl 1 rfl) ?_
                  refine va_get (D := (dC, dI)) (ci := 5) (v := .ref (q 3)) (C := RX5) (T := TX5) (N := 5) hx hb hts (by decide +kernel) hown hK hP 0 rfl rfl 1 (by decide) (hts (.fieldLink RX5 19 "AchromatDesk" "glasses" "LAchromatDesk$Catalogue;") (by decide +kernel)) (fun _ h9 => h9) rfl dX5_doubletPower_84 ?_
                  refine lv_iload_n hx hb dX5_doubletPower_87 rfl (lv_at hl 3 rfl) ?_
                  refine roVl (As := [.int (nI g2)]) (rest := [.long (vA G g)]) (c_X0_valueB l dC dI cI cJ q G n hn g2 (by omega)) ⟨hx, hb, hml, hown, hts⟩ (cwV 1 hts gX5_doubletPower_X0_valueB rfl rfl rfl (by decide +kernel) ⟨Nat.le_of_ble_eq_true rfl, Nat.le_of_ble_eq_true rfl⟩) (hP.sub [1, 2, 3, 4, 5] rfl) hK hN (ci := 0) rfl rfl rfl hl.1 rfl (Nat.le_of_ble_eq_true rfl) dX5_doubletPower_88 ⟨Nat.zero_le _, Nat.zero_le _⟩ (fun r hr0 => ?_)
                  subst hr0
                  refine lv_lmul hx hb dX5_doubletPower_91 ?_
                  refine lv_goto (tgt := 113) hx hb dX5_doubletPower_92 (by decide) ?_
                  refine rw_topl (show ((vA G g) * (vB G g2) : Int64) = (if v = 0 then vA G g * vB G g2 else -(vA G g2) * vB G g : Int64) from by first | rw [if_pos h72] | rw [if_neg h72]) ?_
                  exact hj113 ls (lv_sub hl [0, 1, 2, 3, 4, 5] rfl)
            · refine lv_ldc2 (v := (-9000000000000000008)) hx hb hown (hts (.constantLong RX5 139 (-9000000000000000008)) (by decide +kernel)) dX5_doubletPower_66 ?_
              exact W.lret hx hb hr (fun t ht hW => ⟨_, rfl, by rw [sDbl, if_pos ⟨h8, h19⟩, if_pos ⟨h30, Int32.not_lt.mp h35, h41⟩, ix_nI (by omega), ix_nI (by omega), if_pos h62], ht⟩) (fun _ h => absurd h List.not_mem_nil) dX5_doubletPower_69
          · refine lv_ldc2 (v := (-9000000000000000001)) hx hb hown (hts (.constantLong RX5 44 (-9000000000000000001)) (by decide +kernel)) dX5_doubletPower_44 ?_
            exact W.lret hx hb hr (fun t ht hW => ⟨_, rfl, by rw [sDbl, if_pos ⟨h8, h19⟩, if_neg (fun w => h41 w.2.2)], ht⟩) (fun _ h => absurd h List.not_mem_nil) dX5_doubletPower_47
    · refine lv_ldc2 (v := (-9000000000000000002)) hx hb hown (hts (.constantLong RX5 97 (-9000000000000000002)) (by decide +kernel)) dX5_doubletPower_22 ?_
      exact W.lret hx hb hr (fun t ht hW => ⟨_, rfl, by rw [sDbl, if_neg (fun w => h19 w.2)], ht⟩) (fun _ h => absurd h List.not_mem_nil) dX5_doubletPower_25

set_option maxHeartbeats 4000000 in
set_option maxRecDepth 100000 in
theorem c_X5_secondarySpectrum (l : Launch) (dC : Nat → ClassId) (dI : Nat → Nat → Nat) (cI cJ : ClassId) (q : Nat → Nat) (G : GL) (n : Nat) (hn : n ≤ 20) (i j w : Int32) : Met l yX5_secondarySpectrum wsX5_secondarySpectrum ({ frames := 2, cells := 0, slots := 0, locals := 48 }) (va_Pc [.ref (q 0), .int i, .int j, .int w] (RO (dC, dI) (tyK cI cJ) ([(q 0, .inr (5, [.ref (q 1), .ref (q 3), .ref (q 8), .ref (q 14), .ref (q 17)])), (q 3, .inr (0, [.ref (q 4), .ref (q 5), .ref (q 6), .ref (q 7), .int (nI n)])), (q 4, .inl (cJ, 20, .inr (.inl (gK G)))), (q 5, .inl (cI, 20, .inl (gF G))), (q 6, .inl (cI, 20, .inl (gD G))), (q 7, .inl (cI, 20, .inl (gC G)))]))) (vp_Sl (fun r => r = sSec G n i j w)) 0 0 (fun _ => False) := by
  refine Met.ofW (cc := cX5_secondarySpectrum) (maxL := 6) (ret := (some .long)) (by decide) rfl ?_
  intro p e s m args below meth c s₁ B hml hv
  obtain ⟨rfl, hP, hK, hN⟩ := hv
  have hx := B.exec
  have hb := B.bytes
  have hr := B.returns
  have hts := atoms_spec (ws := wsX5_secondarySpectrum) B.pre
  have hown : s.vm.findClass RX5 = some m.cls := findClass_of_methodNamed B.named
  have hlocks := B.notSynchronized
  have hP : va_P (dC, dI) vwCl [(q 0, .inr (5, [.ref (q 1), .ref (q 3), .ref (q 8), .ref (q 14), .ref (q 17)])), (q 3, .inr (0, [.ref (q 4), .ref (q 5), .ref (q 6), .ref (q 7), .int (nI n)])), (q 4, .inl (cJ, 20, .inr (.inl (gK G)))), (q 5, .inl (cI, 20, .inl (gF G))), (q 6, .inl (cI, 20, .inl (gD G))), (q 7, .inl (cI, 20, .inl (gC G)))] s.heap := hP
  have hl := lv_entry ([.ref (q 0), .int i, .int j, .int w]) (n := 6) (Nat.le_of_ble_eq_true rfl)
  rw [lg_entry_eq]
  generalize (lg_sl ([.ref (q 0), .int i, .int j, .int w]) ++ List.replicate (6 - (lg_sl ([.ref (q 0), .int i, .int j, .int w])).length) Slot.unset).toArray = ls at hl ⊢
  have hl : lv_has ls 6 [(0, .ref (q 0)), (1, .int i), (2, .int j), (3, .int w)] := hl
  refine lv_aload_n hx hb dX5_secondarySpectrum_0 rfl (lv_at hl 0 rfl) ?_
  refine va_get (D := (dC, dI)) (ci := 5) (v := .ref (q 3)) (C := RX5) (T := TX5) (N := 5) hx hb hts (by decide +kernel) hown hK hP 0 rfl rfl 1 (by decide) (hts (.fieldLink RX5 19 "AchromatDesk" "glasses" "LAchromatDesk$Catalogue;") (by decide +kernel)) (fun _ h9 => h9) rfl dX5_secondarySpectrum_1 ?_
  refine lv_iload_n hx hb dX5_secondarySpectrum_4 rfl (lv_at hl 1 rfl) ?_
  refine roVi (As := [.int i]) (rest := []) (c_X0_has l dC dI cI cJ q G n hn i) ⟨hx, hb, hml, hown, hts⟩ (cwV 1 hts gX5_secondarySpectrum_X0_has rfl rfl rfl (by decide +kernel) ⟨Nat.le_of_ble_eq_true rfl, Nat.le_of_ble_eq_true rfl⟩) (hP.sub [1, 2, 3, 4, 5] rfl) hK hN (ci := 0) rfl rfl rfl hl.1 rfl (Nat.le_of_ble_eq_true rfl) dX5_secondarySpectrum_5 ⟨Nat.zero_le _, Nat.zero_le _⟩ (fun r hr0 => ?_)
  subst hr0
  refine rb_eq (tgt := 22) hx hb dX5_secondarySpectrum_8 (by decide) (fun h8 => ?_) (fun h8 => ?_)
  · refine lv_ldc2 (v := (-9000000000000000002)) hx hb hown (hts (.constantLong RX5 97 (-9000000000000000002)) (by decide +kernel)) dX5_secondarySpectrum_22 ?_
    exact W.lret hx hb hr (fun t ht hW => ⟨_, rfl, by rw [sSec, if_neg (fun w => h8 w.1)], ht⟩) (fun _ h => absurd h List.not_mem_nil) dX5_secondarySpectrum_25
  · obtain ⟨g, hg, eg⟩ := hasP_ex (by omega) h8
    subst eg
    refine lv_aload_n hx hb dX5_secondarySpectrum_11 rfl (lv_at hl 0 rfl) ?_
    refine va_get (D := (dC, dI)) (ci := 5) (v := .ref (q 3)) (C := RX5) (T := TX5) (N := 5) hx hb hts (by decide +kernel) hown hK hP 0 rfl rfl 1 (by decide) (hts (.fieldLink RX5 19 "AchromatDesk" "glasses" "LAchromatDesk$Catalogue;") (by decide +kernel)) (fun _ h9 => h9) rfl dX5_secondarySpectrum_12 ?_
    refine lv_iload_n hx hb dX5_secondarySpectrum_15 rfl (lv_at hl 2 rfl) ?_
    refine roVi (As := [.int j]) (rest := []) (c_X0_has l dC dI cI cJ q G n hn j) ⟨hx, hb, hml, hown, hts⟩ (cwV 1 hts gX5_secondarySpectrum_X0_has rfl rfl rfl (by decide +kernel) ⟨Nat.le_of_ble_eq_true rfl, Nat.le_of_ble_eq_true rfl⟩) (hP.sub [1, 2, 3, 4, 5] rfl) hK hN (ci := 0) rfl rfl rfl hl.1 rfl (Nat.le_of_ble_eq_true rfl) dX5_secondarySpectrum_16 ⟨Nat.zero_le _, Nat.zero_le _⟩ (fun r hr0 => ?_)
    subst hr0
    refine rb_ne (tgt := 26) hx hb dX5_secondarySpectrum_19 (by decide) (fun h19 => ?_) (fun h19 => ?_)
    · obtain ⟨g2, hg2, eg2⟩ := hasP_ex (by omega) h19
      subst eg2
      refine lv_iload_n hx hb dX5_secondarySpectrum_26 rfl (lv_at hl 3 rfl) ?_
      refine stSi (As := [.int w]) (rest := []) (c_X5_isDesignPower l w) ⟨hx, hb, hml, hown, hts⟩ (va_cwS 1 hts gX5_secondarySpectrum_X5_isDesignPower rfl rfl rfl (by decide +kernel) ⟨Nat.le_of_ble_eq_true rfl, Nat.le_of_ble_eq_true rfl⟩) rfl hl.1 rfl (Nat.le_of_ble_eq_true rfl) dX5_secondarySpectrum_27 ⟨Nat.zero_le _, Nat.zero_le _⟩ (fun r hr0 => ?_)
      subst hr0
      refine rb_ne (tgt := 37) hx hb dX5_secondarySpectrum_30 (by decide) (fun h30 => ?_) (fun h30 => ?_)
      · refine lv_aload_n hx hb dX5_secondarySpectrum_37 rfl (lv_at hl 0 rfl) ?_
        refine va_get (D := (dC, dI)) (ci := 5) (v := .ref (q 3)) (C := RX5) (T := TX5) (N := 5) hx hb hts (by decide +kernel) hown hK hP 0 rfl rfl 1 (by decide) (hts (.fieldLink RX5 19 "AchromatDesk" "glasses" "LAchromatDesk$Catalogue;") (by decide +kernel)) (fun _ h9 => h9) rfl dX5_secondarySpectrum_38 ?_
        refine lv_iload_n hx hb dX5_secondarySpectrum_41 rfl (lv_at hl 1 rfl) ?_
        refine lv_iload_n hx hb dX5_secondarySpectrum_42 rfl (lv_at hl 2 rfl) ?_
        refine roVl (As := [.int (nI g), .int (nI g2)]) (rest := []) (c_X0_valueE l dC dI cI cJ q G n hn g g2 (by omega) (by omega)) ⟨hx, hb, hml, hown, hts⟩ (cwV 2 hts gX5_secondarySpectrum_X0_valueE rfl rfl rfl (by decide +kernel) ⟨Nat.le_of_ble_eq_true rfl, Nat.le_of_ble_eq_true rfl⟩) (hP.sub [1, 2, 3, 4, 5] rfl) hK hN (ci := 0) rfl rfl rfl hl.1 rfl (Nat.le_of_ble_eq_true rfl) dX5_secondarySpectrum_43 ⟨Nat.zero_le _, Nat.zero_le _⟩ (fun r hr0 => ?_)
        subst hr0
        refine lv_lstore (lv' := [(4, .long (vE G g g2)), (0, .ref (q 0)), (1, .int (nI g)), (2, .int (nI g2)), (3, .int w)]) hx hb dX5_secondarySpectrum_46 hl (by decide) rfl (fun ls hl => ?_)
        refine lv_lload hx hb dX5_secondarySpectrum_48 (lv_at hl 0 rfl) ?_
        refine lv_lconst (v := 0) hx hb dX5_secondarySpectrum_50 (by decide) ?_
        refine rl_ifne (tgt := 59) hx hb dX5_secondarySpectrum_51 dX5_secondarySpectrum_52 (by decide) (fun h51 => ?_) (fun h51 => ?_)
        · refine lv_ldc2 (v := 1000000) hx hb hown (hts (.constantLong RX5 152 (1000000)) (by decide +kernel)) dX5_secondarySpectrum_59 ?_
          refine lv_iload_n hx hb dX5_secondarySpectrum_62 rfl (lv_at hl 4 rfl) ?_
          refine lv_i2l (v := w.toInt64) hx hb dX5_secondarySpectrum_63 rfl ?_
          refine lv_lmul hx hb dX5_secondarySpectrum_64 ?_
          refine lv_aload_n hx hb dX5_secondarySpectrum_65 rfl (lv_at hl 1 rfl) ?_
          refine va_get (D := (dC, dI)) (ci := 5) (v := .ref (q 3)) (C := RX5) (T := TX5) (N := 5) hx hb hts (by decide +kernel) hown hK hP 0 rfl rfl 1 (by decide) (hts (.fieldLink RX5 19 "AchromatDesk" "glasses" "LAchromatDesk$Catalogue;") (by decide +kernel)) (fun _ h9 => h9) rfl dX5_secondarySpectrum_66 ?_
          refine lv_iload_n hx hb dX5_secondarySpectrum_69 rfl (lv_at hl 3 rfl) ?_
          refine lv_iload_n hx hb dX5_secondarySpectrum_70 rfl (lv_at hl 2 rfl) ?_
          refine roVl (As := [.int (nI g2), .int (nI g)]) (rest := [.long (1000000 * w.toInt64)]) (c_X0_valueX l dC dI cI cJ q G n hn g2 g (by omega) (by omega)) ⟨hx, hb, hml, hown, hts⟩ (cwV 2 hts gX5_secondarySpectrum_X0_valueX rfl rfl rfl (by decide +kernel) ⟨Nat.le_of_ble_eq_true rfl, Nat.le_of_ble_eq_true rfl⟩) (hP.sub [1, 2, 3, 4, 5] rfl) hK hN (ci := 0) rfl rfl rfl hl.1 rfl (Nat.le_of_ble_eq_true rfl) dX5_secondarySpectrum_71 ⟨Nat.zero_le _, Nat.zero_le _⟩ (fun r hr0 => ?_)
          subst hr0
          refine lv_lmul hx hb dX5_secondarySpectrum_74 ?_
          refine lv_lload hx hb dX5_secondarySpectrum_75 (lv_at hl 0 rfl) ?_
          refine stSl (As := [.long ((1000000 * w.toInt64) * (vX G g2 g)), .long (vE G g g2)]) (rest := []) (c_X5_floorQuotient l ((1000000 * w.toInt64) * (vX G g2 g)) (vE G g g2)) ⟨hx, hb, hml, hown, hts⟩ (va_cwS 2 hts gX5_secondarySpectrum_X5_floorQuotient rfl rfl rfl (by decide +kernel) ⟨Nat.le_of_ble_eq_true rfl, Nat.le_of_ble_eq_true rfl⟩) rfl hl.1 rfl (Nat.le_of_ble_eq_true rfl) dX5_secondarySpectrum_77 ⟨Nat.zero_le _, Nat.zero_le _⟩ (fun r hr0 => ?_)
          subst hr0
          exact W.lret hx hb hr (fun t ht hW => ⟨_, rfl, by rw [sSec, if_pos ⟨h8, h19⟩, if_pos h30, ix_nI (by omega), ix_nI (by omega), if_neg h51], ht⟩) (fun _ h => absurd h List.not_mem_nil) dX5_secondarySpectrum_80
        · refine lv_ldc2 (v := (-9000000000000000008)) hx hb hown (hts (.constantLong RX5 139 (-9000000000000000008)) (by decide +kernel)) dX5_secondarySpectrum_55 ?_
          exact W.lret hx hb hr (fun t ht hW => ⟨_, rfl, by rw [sSec, if_pos ⟨h8, h19⟩, if_pos h30, ix_nI (by omega), ix_nI (by omega), if_pos h51], ht⟩) (fun _ h => absurd h List.not_mem_nil) dX5_secondarySpectrum_58
      · refine lv_ldc2 (v := (-9000000000000000001)) hx hb hown (hts (.constantLong RX5 44 (-9000000000000000001)) (by decide +kernel)) dX5_secondarySpectrum_33 ?_
        exact W.lret hx hb hr (fun t ht hW => ⟨_, rfl, by rw [sSec, if_pos ⟨h8, h19⟩, if_neg h30], ht⟩) (fun _ h => absurd h List.not_mem_nil) dX5_secondarySpectrum_36
    · refine lv_ldc2 (v := (-9000000000000000002)) hx hb hown (hts (.constantLong RX5 97 (-9000000000000000002)) (by decide +kernel)) dX5_secondarySpectrum_22 ?_
      exact W.lret hx hb hr (fun t ht hW => ⟨_, rfl, by rw [sSec, if_neg (fun w => h19 w.2)], ht⟩) (fun _ h => absurd h List.not_mem_nil) dX5_secondarySpectrum_25

set_option maxHeartbeats 4000000 in
set_option maxRecDepth 100000 in
theorem c_X5_tripletPower (l : Launch) (dC : Nat → ClassId) (dI : Nat → Nat → Nat) (cI cJ : ClassId) (q : Nat → Nat) (G : GL) (n : Nat) (hn : n ≤ 20) (i j z w v : Int32) : Met l yX5_tripletPower wsX5_tripletPower ({ frames := 3, cells := 0, slots := 0, locals := 66 }) (va_Pc [.ref (q 0), .int i, .int j, .int z, .int w, .int v] (RO (dC, dI) (tyK cI cJ) ([(q 0, .inr (5, [.ref (q 1), .ref (q 3), .ref (q 8), .ref (q 14), .ref (q 17)])), (q 3, .inr (0, [.ref (q 4), .ref (q 5), .ref (q 6), .ref (q 7), .int (nI n)])), (q 4, .inl (cJ, 20, .inr (.inl (gK G)))), (q 5, .inl (cI, 20, .inl (gF G))), (q 6, .inl (cI, 20, .inl (gD G))), (q 7, .inl (cI, 20, .inl (gC G)))]))) (vp_Sl (fun r => r = sTri G n i j z w v)) 0 0 (fun _ => False) := by
  refine Met.ofW (cc := cX5_tripletPower) (maxL := 16) (ret := (some .long)) (by decide) rfl ?_
  intro p e s m args below meth c s₁ B hml hv
  obtain ⟨rfl, hP, hK, hN⟩ := hv
  have hx := B.exec
  have hb := B.bytes
  have hr := B.returns
  have hts := atoms_spec (ws := wsX5_tripletPower) B.pre
  have hown : s.vm.findClass RX5 = some m.cls := findClass_of_methodNamed B.named
  have hlocks := B.notSynchronized
  have hP : va_P (dC, dI) vwCl [(q 0, .inr (5, [.ref (q 1), .ref (q 3), .ref (q 8), .ref (q 14), .ref (q 17)])), (q 3, .inr (0, [.ref (q 4), .ref (q 5), .ref (q 6), .ref (q 7), .int (nI n)])), (q 4, .inl (cJ, 20, .inr (.inl (gK G)))), (q 5, .inl (cI, 20, .inl (gF G))), (q 6, .inl (cI, 20, .inl (gD G))), (q 7, .inl (cI, 20, .inl (gC G)))] s.heap := hP
  have hl := lv_entry ([.ref (q 0), .int i, .int j, .int z, .int w, .int v]) (n := 16) (Nat.le_of_ble_eq_true rfl)
  rw [lg_entry_eq]
  generalize (lg_sl ([.ref (q 0), .int i, .int j, .int z, .int w, .int v]) ++ List.replicate (16 - (lg_sl ([.ref (q 0), .int i, .int j, .int z, .int w, .int v])).length) Slot.unset).toArray = ls at hl ⊢
  have hl : lv_has ls 16 [(0, .ref (q 0)), (1, .int i), (2, .int j), (3, .int z), (4, .int w), (5, .int v)] := hl
  refine lv_aload_n hx hb dX5_tripletPower_0 rfl (lv_at hl 0 rfl) ?_
  refine va_get (D := (dC, dI)) (ci := 5) (v := .ref (q 3)) (C := RX5) (T := TX5) (N := 5) hx hb hts (by decide +kernel) hown hK hP 0 rfl rfl 1 (by decide) (hts (.fieldLink RX5 19 "AchromatDesk" "glasses" "LAchromatDesk$Catalogue;") (by decide +kernel)) (fun _ h9 => h9) rfl dX5_tripletPower_1 ?_
  refine lv_iload_n hx hb dX5_tripletPower_4 rfl (lv_at hl 1 rfl) ?_
  refine roVi (As := [.int i]) (rest := []) (c_X0_has l dC dI cI cJ q G n hn i) ⟨hx, hb, hml, hown, hts⟩ (cwV 1 hts gX5_tripletPower_X0_has rfl rfl rfl (by decide +kernel) ⟨Nat.le_of_ble_eq_true rfl, Nat.le_of_ble_eq_true rfl⟩) (hP.sub [1, 2, 3, 4, 5] rfl) hK hN (ci := 0) rfl rfl rfl hl.1 rfl (Nat.le_of_ble_eq_true rfl) dX5_tripletPower_5 ⟨Nat.zero_le _, Nat.zero_le _⟩ (fun r hr0 => ?_)
  subst hr0
  refine rb_eq (tgt := 33) hx hb dX5_tripletPower_8 (by decide) (fun h8 => ?_) (fun h8 => ?_)
  · refine lv_ldc2 (v := (-9000000000000000002)) hx hb hown (hts (.constantLong RX5 97 (-9000000000000000002)) (by decide +kernel)) dX5_tripletPower_33 ?_
    exact W.lret hx hb hr (fun t ht hW => ⟨_, rfl, by rw [sTri, if_neg (fun w => h8 w.1)], ht⟩) (fun _ h => absurd h List.not_mem_nil) dX5_tripletPower_36
  · obtain ⟨g, hg, eg⟩ := hasP_ex (by omega) h8
    subst eg
    refine lv_aload_n hx hb dX5_tripletPower_11 rfl (lv_at hl 0 rfl) ?_
    refine va_get (D := (dC, dI)) (ci := 5) (v := .ref (q 3)) (C := RX5) (T := TX5) (N := 5) hx hb hts (by decide +kernel) hown hK hP 0 rfl rfl 1 (by decide) (hts (.fieldLink RX5 19 "AchromatDesk" "glasses" "LAchromatDesk$Catalogue;") (by decide +kernel)) (fun _ h9 => h9) rfl dX5_tripletPower_12 ?_
    refine lv_iload_n hx hb dX5_tripletPower_15 rfl (lv_at hl 2 rfl) ?_
    refine roVi (As := [.int j]) (rest := []) (c_X0_has l dC dI cI cJ q G n hn j) ⟨hx, hb, hml, hown, hts⟩ (cwV 1 hts gX5_tripletPower_X0_has rfl rfl rfl (by decide +kernel) ⟨Nat.le_of_ble_eq_true rfl, Nat.le_of_ble_eq_true rfl⟩) (hP.sub [1, 2, 3, 4, 5] rfl) hK hN (ci := 0) rfl rfl rfl hl.1 rfl (Nat.le_of_ble_eq_true rfl) dX5_tripletPower_16 ⟨Nat.zero_le _, Nat.zero_le _⟩ (fun r hr0 => ?_)
    subst hr0
    refine rb_eq (tgt := 33) hx hb dX5_tripletPower_19 (by decide) (fun h19 => ?_) (fun h19 => ?_)
    · refine lv_ldc2 (v := (-9000000000000000002)) hx hb hown (hts (.constantLong RX5 97 (-9000000000000000002)) (by decide +kernel)) dX5_tripletPower_33 ?_
      exact W.lret hx hb hr (fun t ht hW => ⟨_, rfl, by rw [sTri, if_neg (fun w => h19 w.2.1)], ht⟩) (fun _ h => absurd h List.not_mem_nil) dX5_tripletPower_36
    · obtain ⟨g2, hg2, eg2⟩ := hasP_ex (by omega) h19
      subst eg2
      refine lv_aload_n hx hb dX5_tripletPower_22 rfl (lv_at hl 0 rfl) ?_
      refine va_get (D := (dC, dI)) (ci := 5) (v := .ref (q 3)) (C := RX5) (T := TX5) (N := 5) hx hb hts (by decide +kernel) hown hK hP 0 rfl rfl 1 (by decide) (hts (.fieldLink RX5 19 "AchromatDesk" "glasses" "LAchromatDesk$Catalogue;") (by decide +kernel)) (fun _ h9 => h9) rfl dX5_tripletPower_23 ?_
      refine lv_iload_n hx hb dX5_tripletPower_26 rfl (lv_at hl 3 rfl) ?_
      refine roVi (As := [.int z]) (rest := []) (c_X0_has l dC dI cI cJ q G n hn z) ⟨hx, hb, hml, hown, hts⟩ (cwV 1 hts gX5_tripletPower_X0_has rfl rfl rfl (by decide +kernel) ⟨Nat.le_of_ble_eq_true rfl, Nat.le_of_ble_eq_true rfl⟩) (hP.sub [1, 2, 3, 4, 5] rfl) hK hN (ci := 0) rfl rfl rfl hl.1 rfl (Nat.le_of_ble_eq_true rfl) dX5_tripletPower_27 ⟨Nat.zero_le _, Nat.zero_le _⟩ (fun r hr0 => ?_)
      subst hr0
      refine rb_ne (tgt := 37) hx hb dX5_tripletPower_30 (by decide) (fun h30 => ?_) (fun h30 => ?_)
      · obtain ⟨g3, hg3, eg3⟩ := hasP_ex (by omega) h30
        subst eg3
        refine lv_iload_n hx hb dX5_tripletPower_37 rfl (lv_at hl 1 rfl) ?_
        refine lv_iload_n hx hb dX5_tripletPower_38 rfl (lv_at hl 2 rfl) ?_
        refine lv_icmp_eq (tgt := 52) hx hb dX5_tripletPower_39 (by decide) (fun h39 => ?_) (fun h39 => ?_)
        · refine lv_ldc2 (v := (-9000000000000000006)) hx hb hown (hts (.constantLong RX5 88 (-9000000000000000006)) (by decide +kernel)) dX5_tripletPower_52 ?_
          exact W.lret hx hb hr (fun t ht hW => ⟨_, rfl, by rw [sTri, if_pos ⟨h8, h19, h30⟩, if_pos (Or.inl h39)], ht⟩) (fun _ h => absurd h List.not_mem_nil) dX5_tripletPower_55
        · refine lv_iload_n hx hb dX5_tripletPower_42 rfl (lv_at hl 2 rfl) ?_
          refine lv_iload_n hx hb dX5_tripletPower_43 rfl (lv_at hl 3 rfl) ?_
          refine lv_icmp_eq (tgt := 52) hx hb dX5_tripletPower_44 (by decide) (fun h44 => ?_) (fun h44 => ?_)
          · refine lv_ldc2 (v := (-9000000000000000006)) hx hb hown (hts (.constantLong RX5 88 (-9000000000000000006)) (by decide +kernel)) dX5_tripletPower_52 ?_
            exact W.lret hx hb hr (fun t ht hW => ⟨_, rfl, by rw [sTri, if_pos ⟨h8, h19, h30⟩, if_pos (Or.inr (Or.inl h44))], ht⟩) (fun _ h => absurd h List.not_mem_nil) dX5_tripletPower_55
          · refine lv_iload_n hx hb dX5_tripletPower_47 rfl (lv_at hl 3 rfl) ?_
            refine lv_iload_n hx hb dX5_tripletPower_48 rfl (lv_at hl 1 rfl) ?_
            refine lv_icmp_ne (tgt := 56) hx hb dX5_tripletPower_49 (by decide) (fun h49 => ?_) (fun h49 => ?_)
            · refine lv_iload hx hb dX5_tripletPower_56 (lv_at hl 4 rfl) ?_
              refine stSi (As := [.int w]) (rest := []) (c_X5_isDesignPower l w) ⟨hx, hb, hml, hown, hts⟩ (va_cwS 1 hts gX5_tripletPower_X5_isDesignPower rfl rfl rfl (by decide +kernel) ⟨Nat.le_of_ble_eq_true rfl, Nat.le_of_ble_eq_true rfl⟩) rfl hl.1 rfl (Nat.le_of_ble_eq_true rfl) dX5_tripletPower_58 ⟨Nat.zero_le _, Nat.zero_le _⟩ (fun r hr0 => ?_)
              subst hr0
              refine rb_eq (tgt := 75) hx hb dX5_tripletPower_61 (by decide) (fun h61 => ?_) (fun h61 => ?_)
              · refine lv_ldc2 (v := (-9000000000000000001)) hx hb hown (hts (.constantLong RX5 44 (-9000000000000000001)) (by decide +kernel)) dX5_tripletPower_75 ?_
                exact W.lret hx hb hr (fun t ht hW => ⟨_, rfl, by rw [sTri, if_pos ⟨h8, h19, h30⟩, if_neg (fun w => w.elim h39 (fun w => w.elim h44 h49)), if_neg (fun w => h61 w.1)], ht⟩) (fun _ h => absurd h List.not_mem_nil) dX5_tripletPower_78
              · refine lv_iload hx hb dX5_tripletPower_64 (lv_at hl 5 rfl) ?_
                refine lv_if_lt (tgt := 75) hx hb dX5_tripletPower_66 (by decide) (fun h66 => ?_) (fun h66 => ?_)
                · refine lv_ldc2 (v := (-9000000000000000001)) hx hb hown (hts (.constantLong RX5 44 (-9000000000000000001)) (by decide +kernel)) dX5_tripletPower_75 ?_
                  exact W.lret hx hb hr (fun t ht hW => ⟨_, rfl, by rw [sTri, if_pos ⟨h8, h19, h30⟩, if_neg (fun w => w.elim h39 (fun w => w.elim h44 h49)), if_neg (fun w => absurd w.2.1 (Int32.not_le.mpr h66))], ht⟩) (fun _ h => absurd h List.not_mem_nil) dX5_tripletPower_78
                · refine lv_iload hx hb dX5_tripletPower_69 (lv_at hl 5 rfl) ?_
                  refine lv_iconst (v := 2) hx hb dX5_tripletPower_71 (by decide) ?_
                  refine lv_icmp_le (tgt := 79) hx hb dX5_tripletPower_72 (by decide) (fun h72 => ?_) (fun h72 => ?_)
                  · refine lv_aload_n hx hb dX5_tripletPower_79 rfl (lv_at hl 0 rfl) ?_
                    refine va_get (D := (dC, dI)) (ci := 5) (v := .ref (q 3)) (C := RX5) (T := TX5) (N := 5) hx hb hts (by decide +kernel) hown hK hP 0 rfl rfl 1 (by decide) (hts (.fieldLink RX5 19 "AchromatDesk" "glasses" "LAchromatDesk$Catalogue;") (by decide +kernel)) (fun _ h9 => h9) rfl dX5_tripletPower_80 ?_
                    refine lv_iload_n hx hb dX5_tripletPower_83 rfl (lv_at hl 1 rfl) ?_
                    refine lv_iload_n hx hb dX5_tripletPower_84 rfl (lv_at hl 2 rfl) ?_
                    refine lv_iload_n hx hb dX5_tripletPower_85 rfl (lv_at hl 3 rfl) ?_
                    refine roVl (As := [.int (nI g), .int (nI g2), .int (nI g3)]) (rest := []) (c_X0_tripletShare l dC dI cI cJ q G n hn g g2 g3 (by omega) (by omega) (by omega)) ⟨hx, hb, hml, hown, hts⟩ (cwV 3 hts gX5_tripletPower_X0_tripletShare rfl rfl rfl (by decide +kernel) ⟨Nat.le_of_ble_eq_true rfl, Nat.le_of_ble_eq_true rfl⟩) (hP.sub [1, 2, 3, 4, 5] rfl) hK hN (ci := 0) rfl rfl rfl hl.1 rfl (Nat.le_of_ble_eq_true rfl) dX5_tripletPower_86 ⟨Nat.zero_le _, Nat.zero_le _⟩ (fun r hr0 => ?_)
                    subst hr0
                    refine lv_lstore (lv' := [(6, .long (vT G g g2 g3)), (0, .ref (q 0)), (1, .int (nI g)), (2, .int (nI g2)), (3, .int (nI g3)), (4, .int w), (5, .int v)]) hx hb dX5_tripletPower_89 hl (by decide) rfl (fun ls hl => ?_)
                    refine lv_aload_n hx hb dX5_tripletPower_91 rfl (lv_at hl 1 rfl) ?_
                    refine va_get (D := (dC, dI)) (ci := 5) (v := .ref (q 3)) (C := RX5) (T := TX5) (N := 5) hx hb hts (by decide +kernel) hown hK hP 0 rfl rfl 1 (by decide) (hts (.fieldLink RX5 19 "AchromatDesk" "glasses" "LAchromatDesk$Catalogue;") (by decide +kernel)) (fun _ h9 => h9) rfl dX5_tripletPower_92 ?_
                    refine lv_iload_n hx hb dX5_tripletPower_95 rfl (lv_at hl 3 rfl) ?_
                    refine lv_iload_n hx hb dX5_tripletPower_96 rfl (lv_at hl 4 rfl) ?_
                    refine lv_iload_n hx hb dX5_tripletPower_97 rfl (lv_at hl 2 rfl) ?_
                    refine roVl (As := [.int (nI g2), .int (nI g3), .int (nI g)]) (rest := []) (c_X0_tripletShare l dC dI cI cJ q G n hn g2 g3 g (by omega) (by omega) (by omega)) ⟨hx, hb, hml, hown, hts⟩ (cwV 3 hts gX5_tripletPower_X0_tripletShare rfl rfl rfl (by decide +kernel) ⟨Nat.le_of_ble_eq_true rfl, Nat.le_of_ble_eq_true rfl⟩) (hP.sub [1, 2, 3, 4, 5] rfl) hK hN (ci := 0) rfl rfl rfl hl.1 rfl (Nat.le_of_ble_eq_true rfl) dX5_tripletPower_98 ⟨Nat.zero_le _, Nat.zero_le _⟩ (fun r hr0 => ?_)
                    subst hr0
                    refine lv_lstore (lv' := [(8, .long (vT G g2 g3 g)), (6, .long (vT G g g2 g3)), (0, .ref (q 0)), (1, .int (nI g)), (2, .int (nI g2)), (3, .int (nI g3)), (4, .int w), (5, .int v)]) hx hb dX5_tripletPower_101 hl (by decide) rfl (fun ls hl => ?_)
                    refine lv_aload_n hx hb dX5_tripletPower_103 rfl (lv_at hl 2 rfl) ?_
                    refine va_get (D := (dC, dI)) (ci := 5) (v := .ref (q 3)) (C := RX5) (T := TX5) (N := 5) hx hb hts (by decide +kernel) hown hK hP 0 rfl rfl 1 (by decide) (hts (.fieldLink RX5 19 "AchromatDesk" "glasses" "LAchromatDesk$Catalogue;") (by decide +kernel)) (fun _ h9 => h9) rfl dX5_tripletPower_104 ?_
                    refine lv_iload_n hx hb dX5_tripletPower_107 rfl (lv_at hl 5 rfl) ?_
                    refine lv_iload_n hx hb dX5_tripletPower_108 rfl (lv_at hl 3 rfl) ?_
                    refine lv_iload_n hx hb dX5_tripletPower_109 rfl (lv_at hl 4 rfl) ?_
                    refine roVl (As := [.int (nI g3), .int (nI g), .int (nI g2)]) (rest := []) (c_X0_tripletShare l dC dI cI cJ q G n hn g3 g g2 (by omega) (by omega) (by omega)) ⟨hx, hb, hml, hown, hts⟩ (cwV 3 hts gX5_tripletPower_X0_tripletShare rfl rfl rfl (by decide +kernel) ⟨Nat.le_of_ble_eq_true rfl, Nat.le_of_ble_eq_true rfl⟩) (hP.sub [1, 2, 3, 4, 5] rfl) hK hN (ci := 0) rfl rfl rfl hl.1 rfl (Nat.le_of_ble_eq_true rfl) dX5_tripletPower_110 ⟨Nat.zero_le _, Nat.zero_le _⟩ (fun r hr0 => ?_)
                    subst hr0
                    refine lv_lstore (lv' := [(10, .long (vT G g3 g g2)), (8, .long (vT G g2 g3 g)), (6, .long (vT G g g2 g3)), (0, .ref (q 0)), (1, .int (nI g)), (2, .int (nI g2)), (3, .int (nI g3)), (4, .int w), (5, .int v)]) hx hb dX5_tripletPower_113 hl (by decide) rfl (fun ls hl => ?_)
                    refine lv_lload hx hb dX5_tripletPower_115 (lv_at hl 2 rfl) ?_
                    refine lv_lload hx hb dX5_tripletPower_117 (lv_at hl 1 rfl) ?_
                    refine lv_ladd hx hb dX5_tripletPower_119 ?_
                    refine lv_lload hx hb dX5_tripletPower_120 (lv_at hl 0 rfl) ?_
                    refine lv_ladd hx hb dX5_tripletPower_122 ?_
                    refine lv_lstore (lv' := [(12, .long (vTT G g g2 g3)), (10, .long (vT G g3 g g2)), (8, .long (vT G g2 g3 g)), (6, .long (vT G g g2 g3)), (0, .ref (q 0)), (1, .int (nI g)), (2, .int (nI g2)), (3, .int (nI g3)), (4, .int w), (5, .int v)]) hx hb dX5_tripletPower_123 hl (by decide) rfl (fun ls hl => ?_)
                    refine lv_lload hx hb dX5_tripletPower_125 (lv_at hl 0 rfl) ?_
                    refine lv_lconst (v := 0) hx hb dX5_tripletPower_127 (by decide) ?_
                    refine rl_ifne (tgt := 136) hx hb dX5_tripletPower_128 dX5_tripletPower_129 (by decide) (fun h128 => ?_) (fun h128 => ?_)
                    · refine rjoin (nL := 16) 159 [(12, .long (vTT G g g2 g3)), (10, .long (vT G g3 g g2)), (8, .long (vT G g2 g3 g)), (6, .long (vT G g g2 g3)), (0, .ref (q 0)), (1, .int (nI g)), (2, .int (nI g2)), (3, .int (nI g3)), (4, .int w), (5, .int v)] [.long (if v = 0 then vT G g g2 g3 else if v = 1 then vT G g2 g3 g else vT G g3 g g2)] (fun ls hl => ?_) (fun hj159 => ?_)
                      · refine lv_lstore (lv' := [(14, .long (if v = 0 then vT G g g2 g3 else if v = 1 then vT G g2 g3 g else vT G g3 g g2)), (12, .long (vTT G g g2 g3)), (10, .long (vT G g3 g g2)), (8, .long (vT G g2 g3 g)), (6, .long (vT G g g2 g3)), (0, .ref (q 0)), (1, .int (nI g)), (2, .int (nI g2)), (3, .int (nI g3)), (4, .int w), (5, .int v)]) hx hb dX5_tripletPower_159 hl (by decide) rfl (fun ls hl => ?_)
                        refine lv_iload hx hb dX5_tripletPower_161 (lv_at hl 9 rfl) ?_
                        refine lv_i2l (v := w.toInt64) hx hb dX5_tripletPower_163 rfl ?_
                        refine lv_lload hx hb dX5_tripletPower_164 (lv_at hl 0 rfl) ?_
                        refine lv_lmul hx hb dX5_tripletPower_166 ?_
                        refine lv_lload hx hb dX5_tripletPower_167 (lv_at hl 1 rfl) ?_
                        refine stSl (As := [.long (w.toInt64 * (if v = 0 then vT G g g2 g3 else if v = 1 then vT G g2 g3 g else vT G g3 g g2)), .long (vTT G g g2 g3)]) (rest := []) (c_X5_floorQuotient l (w.toInt64 * (if v = 0 then vT G g g2 g3 else if v = 1 then vT G g2 g3 g else vT G g3 g g2)) (vTT G g g2 g3)) ⟨hx, hb, hml, hown, hts⟩ (va_cwS 2 hts gX5_tripletPower_X5_floorQuotient rfl rfl rfl (by decide +kernel) ⟨Nat.le_of_ble_eq_true rfl, Nat.le_of_ble_eq_true rfl⟩) rfl hl.1 rfl (Nat.le_of_ble_eq_true rfl) dX5_tripletPower_169 ⟨Nat.zero_le _, Nat.zero_le _⟩ (fun r hr0 => ?_)
                        subst hr0
                        exact W.lret hx hb hr (fun t ht hW => ⟨_, rfl, by rw [sTri, if_pos ⟨h8, h19, h30⟩, if_neg (fun w => w.elim h39 (fun w => w.elim h44 h49)), if_pos ⟨h61, Int32.not_lt.mp h66, h72⟩, ix_nI (by omega), ix_nI (by omega), ix_nI (by omega), if_neg h128], ht⟩) (fun _ h => absurd h List.not_mem_nil) dX5_tripletPower_172
                      · refine lv_iload hx hb dX5_tripletPower_136 (lv_at hl 9 rfl) ?_
                        refine lv_if_ne (tgt := 146) hx hb dX5_tripletPower_138 (by decide) (fun h138 => ?_) (fun h138 => ?_)
                        · refine lv_iload hx hb dX5_tripletPower_146 (lv_at hl 9 rfl) ?_
                          refine lv_iconst (v := 1) hx hb dX5_tripletPower_148 (by decide) ?_
                          refine lv_icmp_ne (tgt := 157) hx hb dX5_tripletPower_149 (by decide) (fun h149 => ?_) (fun h149 => ?_)
                          · refine lv_lload hx hb dX5_tripletPower_157 (lv_at hl 1 rfl) ?_
                            refine rw_topl (show (vT G g3 g g2 : Int64) = (if v = 0 then vT G g g2 g3 else if v = 1 then vT G g2 g3 g else vT G g3 g g2 : Int64) from by first | rw [if_neg h138, if_pos h149] | rw [if_neg h138, if_neg h149]) ?_
                            exact hj159 ls (lv_sub hl [0, 1, 2, 3, 4, 5, 6, 7, 8, 9] rfl)
                          · refine lv_lload hx hb dX5_tripletPower_152 (lv_at hl 2 rfl) ?_
                            refine lv_goto (tgt := 159) hx hb dX5_tripletPower_154 (by decide) ?_
                            refine rw_topl (show (vT G g2 g3 g : Int64) = (if v = 0 then vT G g g2 g3 else if v = 1 then vT G g2 g3 g else vT G g3 g g2 : Int64) from by first | rw [if_neg h138, if_pos h149] | rw [if_neg h138, if_neg h149]) ?_
                            exact hj159 ls (lv_sub hl [0, 1, 2, 3, 4, 5, 6, 7, 8, 9] rfl)
                        · refine lv_lload hx hb dX5_tripletPower_141 (lv_at hl 3 rfl) ?_
                          refine lv_goto (tgt := 159) hx hb dX5_tripletPower_143 (by decide) ?_
                          refine rw_topl (show (vT G g g2 g3 : Int64) = (if v = 0 then vT G g g2 g3 else if v = 1 then vT G g2 g3 g else vT G g3 g g2 : Int64) from by rw [if_pos h138]) ?_
                          exact hj159 ls (lv_sub hl [0, 1, 2, 3, 4, 5, 6, 7, 8, 9] rfl)
                    · refine lv_ldc2 (v := (-9000000000000000008)) hx hb hown (hts (.constantLong RX5 139 (-9000000000000000008)) (by decide +kernel)) dX5_tripletPower_132 ?_
                      exact W.lret hx hb hr (fun t ht hW => ⟨_, rfl, by rw [sTri, if_pos ⟨h8, h19, h30⟩, if_neg (fun w => w.elim h39 (fun w => w.elim h44 h49)), if_pos ⟨h61, Int32.not_lt.mp h66, h72⟩, ix_nI (by omega), ix_nI (by omega), ix_nI (by omega), if_pos h128], ht⟩) (fun _ h => absurd h List.not_mem_nil) dX5_tripletPower_135
                  · refine lv_ldc2 (v := (-9000000000000000001)) hx hb hown (hts (.constantLong RX5 44 (-9000000000000000001)) (by decide +kernel)) dX5_tripletPower_75 ?_
                    exact W.lret hx hb hr (fun t ht hW => ⟨_, rfl, by rw [sTri, if_pos ⟨h8, h19, h30⟩, if_neg (fun w => w.elim h39 (fun w => w.elim h44 h49)), if_neg (fun w => h72 w.2.2)], ht⟩) (fun _ h => absurd h List.not_mem_nil) dX5_tripletPower_78
            · refine lv_ldc2 (v := (-9000000000000000006)) hx hb hown (hts (.constantLong RX5 88 (-9000000000000000006)) (by decide +kernel)) dX5_tripletPower_52 ?_
              exact W.lret hx hb hr (fun t ht hW => ⟨_, rfl, by rw [sTri, if_pos ⟨h8, h19, h30⟩, if_pos (Or.inr (Or.inr h49))], ht⟩) (fun _ h => absurd h List.not_mem_nil) dX5_tripletPower_55
      · refine lv_ldc2 (v := (-9000000000000000002)) hx hb hown (hts (.constantLong RX5 97 (-9000000000000000002)) (by decide +kernel)) dX5_tripletPower_33 ?_
        exact W.lret hx hb hr (fun t ht hW => ⟨_, rfl, by rw [sTri, if_neg (fun w => h30 w.2.2)], ht⟩) (fun _ h => absurd h List.not_mem_nil) dX5_tripletPower_36

set_option maxHeartbeats 4000000 in
set_option maxRecDepth 100000 in
theorem c_X5_greatestTripletPower (l : Launch) (dC : Nat → ClassId) (dI : Nat → Nat → Nat) (cI cJ : ClassId) (q : Nat → Nat) (G : GL) (n : Nat) (hn : n ≤ 20) (i j k : Nat) (hi : i < n) (hj : j < n) (hk : k < n) : Met l yX5_greatestTripletPower wsX5_greatestTripletPower ({ frames := 3, cells := 0, slots := 0, locals := 71 }) (va_Pc [.ref (q 0), .int (nI i), .int (nI j), .int (nI k)] (RO (dC, dI) (tyK cI cJ) ([(q 0, .inr (5, [.ref (q 1), .ref (q 3), .ref (q 8), .ref (q 14), .ref (q 17)])), (q 3, .inr (0, [.ref (q 4), .ref (q 5), .ref (q 6), .ref (q 7), .int (nI n)])), (q 4, .inl (cJ, 20, .inr (.inl (gK G)))), (q 5, .inl (cI, 20, .inl (gF G))), (q 6, .inl (cI, 20, .inl (gD G))), (q 7, .inl (cI, 20, .inl (gC G)))]))) (vp_Sl (fun r => r = gTri G i j k)) 0 0 (fun _ => False) := by
  refine Met.ofW (cc := cX5_greatestTripletPower) (maxL := 14) (ret := (some .long)) (by decide) rfl ?_
  intro p e s m args below meth c s₁ B hml hv
  obtain ⟨rfl, hP, hK, hN⟩ := hv
  have hx := B.exec
  have hb := B.bytes
  have hr := B.returns
  have hts := atoms_spec (ws := wsX5_greatestTripletPower) B.pre
  have hown : s.vm.findClass RX5 = some m.cls := findClass_of_methodNamed B.named
  have hlocks := B.notSynchronized
  have hP : va_P (dC, dI) vwCl [(q 0, .inr (5, [.ref (q 1), .ref (q 3), .ref (q 8), .ref (q 14), .ref (q 17)])), (q 3, .inr (0, [.ref (q 4), .ref (q 5), .ref (q 6), .ref (q 7), .int (nI n)])), (q 4, .inl (cJ, 20, .inr (.inl (gK G)))), (q 5, .inl (cI, 20, .inl (gF G))), (q 6, .inl (cI, 20, .inl (gD G))), (q 7, .inl (cI, 20, .inl (gC G)))] s.heap := hP
  have hl := lv_entry ([.ref (q 0), .int (nI i), .int (nI j), .int (nI k)]) (n := 14) (Nat.le_of_ble_eq_true rfl)
  rw [lg_entry_eq]
  generalize (lg_sl ([.ref (q 0), .int (nI i), .int (nI j), .int (nI k)]) ++ List.replicate (14 - (lg_sl ([.ref (q 0), .int (nI i), .int (nI j), .int (nI k)])).length) Slot.unset).toArray = ls at hl ⊢
  have hl : lv_has ls 14 [(0, .ref (q 0)), (1, .int (nI i)), (2, .int (nI j)), (3, .int (nI k))] := hl
  refine lv_aload_n hx hb dX5_greatestTripletPower_0 rfl (lv_at hl 0 rfl) ?_
  refine va_get (D := (dC, dI)) (ci := 5) (v := .ref (q 3)) (C := RX5) (T := TX5) (N := 5) hx hb hts (by decide +kernel) hown hK hP 0 rfl rfl 1 (by decide) (hts (.fieldLink RX5 19 "AchromatDesk" "glasses" "LAchromatDesk$Catalogue;") (by decide +kernel)) (fun _ h9 => h9) rfl dX5_greatestTripletPower_1 ?_
  refine lv_iload_n hx hb dX5_greatestTripletPower_4 rfl (lv_at hl 1 rfl) ?_
  refine lv_iload_n hx hb dX5_greatestTripletPower_5 rfl (lv_at hl 2 rfl) ?_
  refine lv_iload_n hx hb dX5_greatestTripletPower_6 rfl (lv_at hl 3 rfl) ?_
  refine roVl (As := [.int (nI i), .int (nI j), .int (nI k)]) (rest := []) (c_X0_tripletShare l dC dI cI cJ q G n hn i j k (by omega) (by omega) (by omega)) ⟨hx, hb, hml, hown, hts⟩ (cwV 3 hts gX5_greatestTripletPower_X0_tripletShare rfl rfl rfl (by decide +kernel) ⟨Nat.le_of_ble_eq_true rfl, Nat.le_of_ble_eq_true rfl⟩) (hP.sub [1, 2, 3, 4, 5] rfl) hK hN (ci := 0) rfl rfl rfl hl.1 rfl (Nat.le_of_ble_eq_true rfl) dX5_greatestTripletPower_7 ⟨Nat.zero_le _, Nat.zero_le _⟩ (fun r hr0 => ?_)
  subst hr0
  refine lv_lstore (lv' := [(4, .long (vT G i j k)), (0, .ref (q 0)), (1, .int (nI i)), (2, .int (nI j)), (3, .int (nI k))]) hx hb dX5_greatestTripletPower_10 hl (by decide) rfl (fun ls hl => ?_)
  refine lv_aload_n hx hb dX5_greatestTripletPower_12 rfl (lv_at hl 1 rfl) ?_
  refine va_get (D := (dC, dI)) (ci := 5) (v := .ref (q 3)) (C := RX5) (T := TX5) (N := 5) hx hb hts (by decide +kernel) hown hK hP 0 rfl rfl 1 (by decide) (hts (.fieldLink RX5 19 "AchromatDesk" "glasses" "LAchromatDesk$Catalogue;") (by decide +kernel)) (fun _ h9 => h9) rfl dX5_greatestTripletPower_13 ?_
  refine lv_iload_n hx hb dX5_greatestTripletPower_16 rfl (lv_at hl 3 rfl) ?_
  refine lv_iload_n hx hb dX5_greatestTripletPower_17 rfl (lv_at hl 4 rfl) ?_
  refine lv_iload_n hx hb dX5_greatestTripletPower_18 rfl (lv_at hl 2 rfl) ?_
  refine roVl (As := [.int (nI j), .int (nI k), .int (nI i)]) (rest := []) (c_X0_tripletShare l dC dI cI cJ q G n hn j k i (by omega) (by omega) (by omega)) ⟨hx, hb, hml, hown, hts⟩ (cwV 3 hts gX5_greatestTripletPower_X0_tripletShare rfl rfl rfl (by decide +kernel) ⟨Nat.le_of_ble_eq_true rfl, Nat.le_of_ble_eq_true rfl⟩) (hP.sub [1, 2, 3, 4, 5] rfl) hK hN (ci := 0) rfl rfl rfl hl.1 rfl (Nat.le_of_ble_eq_true rfl) dX5_greatestTripletPower_19 ⟨Nat.zero_le _, Nat.zero_le _⟩ (fun r hr0 => ?_)
  subst hr0
  refine lv_lstore (lv' := [(6, .long (vT G j k i)), (4, .long (vT G i j k)), (0, .ref (q 0)), (1, .int (nI i)), (2, .int (nI j)), (3, .int (nI k))]) hx hb dX5_greatestTripletPower_22 hl (by decide) rfl (fun ls hl => ?_)
  refine lv_aload_n hx hb dX5_greatestTripletPower_24 rfl (lv_at hl 2 rfl) ?_
  refine va_get (D := (dC, dI)) (ci := 5) (v := .ref (q 3)) (C := RX5) (T := TX5) (N := 5) hx hb hts (by decide +kernel) hown hK hP 0 rfl rfl 1 (by decide) (hts (.fieldLink RX5 19 "AchromatDesk" "glasses" "LAchromatDesk$Catalogue;") (by decide +kernel)) (fun _ h9 => h9) rfl dX5_greatestTripletPower_25 ?_
  refine lv_iload_n hx hb dX5_greatestTripletPower_28 rfl (lv_at hl 5 rfl) ?_
  refine lv_iload_n hx hb dX5_greatestTripletPower_29 rfl (lv_at hl 3 rfl) ?_
  refine lv_iload_n hx hb dX5_greatestTripletPower_30 rfl (lv_at hl 4 rfl) ?_
  refine roVl (As := [.int (nI k), .int (nI i), .int (nI j)]) (rest := []) (c_X0_tripletShare l dC dI cI cJ q G n hn k i j (by omega) (by omega) (by omega)) ⟨hx, hb, hml, hown, hts⟩ (cwV 3 hts gX5_greatestTripletPower_X0_tripletShare rfl rfl rfl (by decide +kernel) ⟨Nat.le_of_ble_eq_true rfl, Nat.le_of_ble_eq_true rfl⟩) (hP.sub [1, 2, 3, 4, 5] rfl) hK hN (ci := 0) rfl rfl rfl hl.1 rfl (Nat.le_of_ble_eq_true rfl) dX5_greatestTripletPower_31 ⟨Nat.zero_le _, Nat.zero_le _⟩ (fun r hr0 => ?_)
  subst hr0
  refine lv_lstore (lv' := [(8, .long (vT G k i j)), (6, .long (vT G j k i)), (4, .long (vT G i j k)), (0, .ref (q 0)), (1, .int (nI i)), (2, .int (nI j)), (3, .int (nI k))]) hx hb dX5_greatestTripletPower_34 hl (by decide) rfl (fun ls hl => ?_)
  refine lv_lload hx hb dX5_greatestTripletPower_36 (lv_at hl 2 rfl) ?_
  refine lv_lload hx hb dX5_greatestTripletPower_38 (lv_at hl 1 rfl) ?_
  refine lv_ladd hx hb dX5_greatestTripletPower_40 ?_
  refine lv_lload hx hb dX5_greatestTripletPower_41 (lv_at hl 0 rfl) ?_
  refine lv_ladd hx hb dX5_greatestTripletPower_43 ?_
  refine lv_lstore (lv' := [(10, .long (vTT G i j k)), (8, .long (vT G k i j)), (6, .long (vT G j k i)), (4, .long (vT G i j k)), (0, .ref (q 0)), (1, .int (nI i)), (2, .int (nI j)), (3, .int (nI k))]) hx hb dX5_greatestTripletPower_44 hl (by decide) rfl (fun ls hl => ?_)
  refine lv_lload hx hb dX5_greatestTripletPower_46 (lv_at hl 0 rfl) ?_
  refine lv_lconst (v := 0) hx hb dX5_greatestTripletPower_48 (by decide) ?_
  refine rl_ifne (tgt := 57) hx hb dX5_greatestTripletPower_49 dX5_greatestTripletPower_50 (by decide) (fun h49 => ?_) (fun h49 => ?_)
  · refine lv_lload hx hb dX5_greatestTripletPower_57 (lv_at hl 2 rfl) ?_
    refine lv_lload hx hb dX5_greatestTripletPower_59 (lv_at hl 0 rfl) ?_
    refine stSl (As := [.long (vT G j k i), .long (vTT G i j k)]) (rest := []) (c_X5_absolutePower l (vT G j k i) (vTT G i j k)) ⟨hx, hb, hml, hown, hts⟩ (va_cwS 2 hts gX5_greatestTripletPower_X5_absolutePower rfl rfl rfl (by decide +kernel) ⟨Nat.le_of_ble_eq_true rfl, Nat.le_of_ble_eq_true rfl⟩) rfl hl.1 rfl (Nat.le_of_ble_eq_true rfl) dX5_greatestTripletPower_61 ⟨Nat.zero_le _, Nat.zero_le _⟩ (fun r hr0 => ?_)
    subst hr0
    refine lv_lload hx hb dX5_greatestTripletPower_64 (lv_at hl 1 rfl) ?_
    refine lv_lload hx hb dX5_greatestTripletPower_66 (lv_at hl 0 rfl) ?_
    refine stSl (As := [.long (vT G k i j), .long (vTT G i j k)]) (rest := [.long (aP (vT G j k i) (vTT G i j k))]) (c_X5_absolutePower l (vT G k i j) (vTT G i j k)) ⟨hx, hb, hml, hown, hts⟩ (va_cwS 2 hts gX5_greatestTripletPower_X5_absolutePower rfl rfl rfl (by decide +kernel) ⟨Nat.le_of_ble_eq_true rfl, Nat.le_of_ble_eq_true rfl⟩) rfl hl.1 rfl (Nat.le_of_ble_eq_true rfl) dX5_greatestTripletPower_68 ⟨Nat.zero_le _, Nat.zero_le _⟩ (fun r hr0 => ?_)
    subst hr0
    refine va_mmax_long hx hb (by rw [hml]; exact hl.1.symm) hown (hts (.methodLink RX5 264 Lib.MathLoose.max_long.x) (by decide +kernel)) (hts (.static Lib.MathLoose.max_long.x) (by decide +kernel)) (hts (.initialized "java/lang/Math") (by decide +kernel)) (hts (.code Lib.MathLoose.max_long.x Lib.MathLoose.max_long.code 4 (some .long)) (by decide +kernel)) (Nat.le_of_ble_eq_true rfl) (Nat.le_of_ble_eq_true rfl) (Nat.zero_le _) (Nat.zero_le _) dX5_greatestTripletPower_71 ?_
    refine lv_lstore (lv' := [(12, .long (lmax (aP (vT G j k i) (vTT G i j k)) (aP (vT G k i j) (vTT G i j k)))), (10, .long (vTT G i j k)), (8, .long (vT G k i j)), (6, .long (vT G j k i)), (4, .long (vT G i j k)), (0, .ref (q 0)), (1, .int (nI i)), (2, .int (nI j)), (3, .int (nI k))]) hx hb dX5_greatestTripletPower_74 hl (by decide) rfl (fun ls hl => ?_)
    refine lv_lload hx hb dX5_greatestTripletPower_76 (lv_at hl 4 rfl) ?_
    refine lv_lload hx hb dX5_greatestTripletPower_78 (lv_at hl 1 rfl) ?_
    refine stSl (As := [.long (vT G i j k), .long (vTT G i j k)]) (rest := []) (c_X5_absolutePower l (vT G i j k) (vTT G i j k)) ⟨hx, hb, hml, hown, hts⟩ (va_cwS 2 hts gX5_greatestTripletPower_X5_absolutePower rfl rfl rfl (by decide +kernel) ⟨Nat.le_of_ble_eq_true rfl, Nat.le_of_ble_eq_true rfl⟩) rfl hl.1 rfl (Nat.le_of_ble_eq_true rfl) dX5_greatestTripletPower_80 ⟨Nat.zero_le _, Nat.zero_le _⟩ (fun r hr0 => ?_)
    subst hr0
    refine lv_lload hx hb dX5_greatestTripletPower_83 (lv_at hl 0 rfl) ?_
    refine va_mmax_long hx hb (by rw [hml]; exact hl.1.symm) hown (hts (.methodLink RX5 264 Lib.MathLoose.max_long.x) (by decide +kernel)) (hts (.static Lib.MathLoose.max_long.x) (by decide +kernel)) (hts (.initialized "java/lang/Math") (by decide +kernel)) (hts (.code Lib.MathLoose.max_long.x Lib.MathLoose.max_long.code 4 (some .long)) (by decide +kernel)) (Nat.le_of_ble_eq_true rfl) (Nat.le_of_ble_eq_true rfl) (Nat.zero_le _) (Nat.zero_le _) dX5_greatestTripletPower_85 ?_
    exact W.lret hx hb hr (fun t ht hW => ⟨_, rfl, by rw [gTri, if_neg h49]; rfl, ht⟩) (fun _ h => absurd h List.not_mem_nil) dX5_greatestTripletPower_88
  · refine lv_ldc2 (v := (-1)) hx hb hown (hts (.constantLong RX5 212 (-1)) (by decide +kernel)) dX5_greatestTripletPower_53 ?_
    exact W.lret hx hb hr (fun t ht hW => ⟨_, rfl, by rw [gTri, if_pos h49], ht⟩) (fun _ h => absurd h List.not_mem_nil) dX5_greatestTripletPower_56

set_option maxHeartbeats 4000000 in
set_option maxRecDepth 100000 in
theorem c_X5_bestTriplet (l : Launch) (dC : Nat → ClassId) (dI : Nat → Nat → Nat) (cI cJ : ClassId) (q : Nat → Nat) (G : GL) (n : Nat) (hn : n ≤ 20)  : Met l yX5_bestTriplet wsX5_bestTriplet ({ frames := 4, cells := 0, slots := 0, locals := 104 }) (va_Pc [.ref (q 0)] (RO (dC, dI) (tyK cI cJ) ([(q 0, .inr (5, [.ref (q 1), .ref (q 3), .ref (q 8), .ref (q 14), .ref (q 17)])), (q 3, .inr (0, [.ref (q 4), .ref (q 5), .ref (q 6), .ref (q 7), .int (nI n)])), (q 4, .inl (cJ, 20, .inr (.inl (gK G)))), (q 5, .inl (cI, 20, .inl (gF G))), (q 6, .inl (cI, 20, .inl (gD G))), (q 7, .inl (cI, 20, .inl (gC G)))]))) (vp_Sl (fun r => r = (bTri G n).1)) 0 0 (fun _ => False) := by
  refine Met.ofW (cc := cX5_bestTriplet) (maxL := 10) (ret := (some .long)) (by decide) rfl ?_
  intro p e s m args below meth c s₁ B hml hv
  obtain ⟨rfl, hP, hK, hN⟩ := hv
  have hx := B.exec
  have hb := B.bytes
  have hr := B.returns
  have hts := atoms_spec (ws := wsX5_bestTriplet) B.pre
  have hown : s.vm.findClass RX5 = some m.cls := findClass_of_methodNamed B.named
  have hlocks := B.notSynchronized
  have hP : va_P (dC, dI) vwCl [(q 0, .inr (5, [.ref (q 1), .ref (q 3), .ref (q 8), .ref (q 14), .ref (q 17)])), (q 3, .inr (0, [.ref (q 4), .ref (q 5), .ref (q 6), .ref (q 7), .int (nI n)])), (q 4, .inl (cJ, 20, .inr (.inl (gK G)))), (q 5, .inl (cI, 20, .inl (gF G))), (q 6, .inl (cI, 20, .inl (gD G))), (q 7, .inl (cI, 20, .inl (gC G)))] s.heap := hP
  have hl := lv_entry ([.ref (q 0)]) (n := 10) (Nat.le_of_ble_eq_true rfl)
  rw [lg_entry_eq]
  generalize (lg_sl ([.ref (q 0)]) ++ List.replicate (10 - (lg_sl ([.ref (q 0)])).length) Slot.unset).toArray = ls at hl ⊢
  have hl : lv_has ls 10 [(0, .ref (q 0))] := hl
  refine lv_ldc2 (v := (-9000000000000000008)) hx hb hown (hts (.constantLong RX5 139 (-9000000000000000008)) (by decide +kernel)) dX5_bestTriplet_0 ?_
  refine lv_lstore_n (lv' := [(1, .long (-9000000000000000008)), (0, .ref (q 0))]) hx hb dX5_bestTriplet_3 rfl hl (by decide) rfl (fun ls hl => ?_)
  refine lv_lconst (v := 0) hx hb dX5_bestTriplet_4 (by decide) ?_
  refine lv_lstore_n (lv' := [(3, .long 0), (1, .long (-9000000000000000008)), (0, .ref (q 0))]) hx hb dX5_bestTriplet_5 rfl hl (by decide) rfl (fun ls hl => ?_)
  refine lv_iconst (v := 0) hx hb dX5_bestTriplet_6 (by decide) ?_
  refine lv_istore (lv' := [(5, .int 0), (3, .long 0), (1, .long (-9000000000000000008)), (0, .ref (q 0))]) hx hb dX5_bestTriplet_7 hl (by decide) rfl (fun ls hl => ?_)
  refine rloopZ (nL := 10) 0 n (fun i b => bTri2 G n i b) (cNO, 0) (fun k9 z9 => [(5, .int (nI k9)), (3, .long z9.2), (1, .long z9.1), (0, .ref (q 0))]) (fun _ _ => True) (by omega) (trivial) (lv_sub hl [0, 1, 2, 3] rfl) (fun k9 z9 hlo9 hk9 hz9 hI9 ls hl ih9 => ?_) (fun z9 hz9 hI9 ls hl => ?_)
  · refine lv_iload hx hb dX5_bestTriplet_9 (lv_at hl 0 rfl) ?_
    refine lv_aload_n hx hb dX5_bestTriplet_11 rfl (lv_at hl 3 rfl) ?_
    refine va_get (D := (dC, dI)) (ci := 5) (v := .ref (q 3)) (C := RX5) (T := TX5) (N := 5) hx hb hts (by decide +kernel) hown hK hP 0 rfl rfl 1 (by decide) (hts (.fieldLink RX5 19 "AchromatDesk" "glasses" "LAchromatDesk$Catalogue;") (by decide +kernel)) (fun _ h9 => h9) rfl dX5_bestTriplet_12 ?_
    refine va_getN (D := (dC, dI)) (ci := 0) (v := .int (nI n)) (C := RX0) (T := TX0) (N := 5) hx hb hts (by decide +kernel) hown hK hP 1 rfl rfl 4 (by decide) (va_Nw.use (w := .fieldLinkNest "AchromatDesk" 77 "AchromatDesk$Catalogue" "count" "I" "AchromatDesk") rfl (hN.at 2 rfl)) (fun _ h9 => h9) rfl dX5_bestTriplet_15 ?_
    refine rn_ge (tgt := 129) hx hb k9 n rfl rfl (by omega) (by omega) dX5_bestTriplet_18 (by decide) (fun h18 => ?_) (fun h18 => ?_)
    · exfalso; omega
    · refine lv_iload hx hb dX5_bestTriplet_21 (lv_at hl 0 rfl) ?_
      refine lv_iconst (v := 1) hx hb dX5_bestTriplet_23 (by decide) ?_
      refine lv_iadd hx hb dX5_bestTriplet_24 ?_
      refine rw_topi (nI_add k9 1) ?_
      refine lv_istore (lv' := [(6, .int (nI (k9 + 1))), (5, .int (nI k9)), (3, .long z9.2), (1, .long z9.1), (0, .ref (q 0))]) hx hb dX5_bestTriplet_25 hl (by decide) rfl (fun ls hl => ?_)
      refine rloopZ (nL := 10) (k9 + 1) n (fun j b => bTri3 G n k9 j b) z9 (fun k27 z27 => [(6, .int (nI k27)), (5, .int (nI k9)), (3, .long z27.2), (1, .long z27.1), (0, .ref (q 0))]) (fun _ _ => True) (by omega) (trivial) (lv_sub hl [0, 1, 2, 3, 4] rfl) (fun k27 z27 hlo27 hk27 hz27 hI27 ls hl ih27 => ?_) (fun z27 hz27 hI27 ls hl => ?_)
      · refine lv_iload hx hb dX5_bestTriplet_27 (lv_at hl 0 rfl) ?_
        refine lv_aload_n hx hb dX5_bestTriplet_29 rfl (lv_at hl 4 rfl) ?_
        refine va_get (D := (dC, dI)) (ci := 5) (v := .ref (q 3)) (C := RX5) (T := TX5) (N := 5) hx hb hts (by decide +kernel) hown hK hP 0 rfl rfl 1 (by decide) (hts (.fieldLink RX5 19 "AchromatDesk" "glasses" "LAchromatDesk$Catalogue;") (by decide +kernel)) (fun _ h9 => h9) rfl dX5_bestTriplet_30 ?_
        refine va_getN (D := (dC, dI)) (ci := 0) (v := .int (nI n)) (C := RX0) (T := TX0) (N := 5) hx hb hts (by decide +kernel) hown hK hP 1 rfl rfl 4 (by decide) (va_Nw.use (w := .fieldLinkNest "AchromatDesk" 77 "AchromatDesk$Catalogue" "count" "I" "AchromatDesk") rfl (hN.at 2 rfl)) (fun _ h9 => h9) rfl dX5_bestTriplet_33 ?_
        refine rn_ge (tgt := 123) hx hb k27 n rfl rfl (by omega) (by omega) dX5_bestTriplet_36 (by decide) (fun h36 => ?_) (fun h36 => ?_)
        · exfalso; omega
        · refine lv_iload hx hb dX5_bestTriplet_39 (lv_at hl 0 rfl) ?_
          refine lv_iconst (v := 1) hx hb dX5_bestTriplet_41 (by decide) ?_
          refine lv_iadd hx hb dX5_bestTriplet_42 ?_
          refine rw_topi (nI_add k27 1) ?_
          refine lv_istore (lv' := [(7, .int (nI (k27 + 1))), (6, .int (nI k27)), (5, .int (nI k9)), (3, .long z27.2), (1, .long z27.1), (0, .ref (q 0))]) hx hb dX5_bestTriplet_43 hl (by decide) rfl (fun ls hl => ?_)
          refine rloopZ (nL := 10) (k27 + 1) n (fun k b => pick b (lN (10000 * k9 + 100 * k27 + k)) (gTri G k9 k27 k)) z27 (fun k45 z45 => [(7, .int (nI k45)), (6, .int (nI k27)), (5, .int (nI k9)), (3, .long z45.2), (1, .long z45.1), (0, .ref (q 0))]) (fun _ _ => True) (by omega) (trivial) (lv_sub hl [0, 1, 2, 3, 4, 5] rfl) (fun k45 z45 hlo45 hk45 hz45 hI45 ls hl ih45 => ?_) (fun z45 hz45 hI45 ls hl => ?_)
          · refine lv_iload hx hb dX5_bestTriplet_45 (lv_at hl 0 rfl) ?_
            refine lv_aload_n hx hb dX5_bestTriplet_47 rfl (lv_at hl 5 rfl) ?_
            refine va_get (D := (dC, dI)) (ci := 5) (v := .ref (q 3)) (C := RX5) (T := TX5) (N := 5) hx hb hts (by decide +kernel) hown hK hP 0 rfl rfl 1 (by decide) (hts (.fieldLink RX5 19 "AchromatDesk" "glasses" "LAchromatDesk$Catalogue;") (by decide +kernel)) (fun _ h9 => h9) rfl dX5_bestTriplet_48 ?_
            refine va_getN (D := (dC, dI)) (ci := 0) (v := .int (nI n)) (C := RX0) (T := TX0) (N := 5) hx hb hts (by decide +kernel) hown hK hP 1 rfl rfl 4 (by decide) (va_Nw.use (w := .fieldLinkNest "AchromatDesk" 77 "AchromatDesk$Catalogue" "count" "I" "AchromatDesk") rfl (hN.at 2 rfl)) (fun _ h9 => h9) rfl dX5_bestTriplet_51 ?_
            refine rn_ge (tgt := 117) hx hb k45 n rfl rfl (by omega) (by omega) dX5_bestTriplet_54 (by decide) (fun h54 => ?_) (fun h54 => ?_)
            · exfalso; omega
            · refine lv_aload_n hx hb dX5_bestTriplet_57 rfl (lv_at hl 5 rfl) ?_
              refine lv_iload hx hb dX5_bestTriplet_58 (lv_at hl 2 rfl) ?_
              refine lv_iload hx hb dX5_bestTriplet_60 (lv_at hl 1 rfl) ?_
              refine lv_iload hx hb dX5_bestTriplet_62 (lv_at hl 0 rfl) ?_
              refine roVl (As := [.int (nI k9), .int (nI k27), .int (nI k45)]) (rest := []) (c_X5_greatestTripletPower l dC dI cI cJ q G n hn k9 k27 k45 (by omega) (by omega) (by omega)) ⟨hx, hb, hml, hown, hts⟩ (cwV 3 hts gX5_bestTriplet_X5_greatestTripletPower rfl rfl rfl (by decide +kernel) ⟨Nat.le_of_ble_eq_true rfl, Nat.le_of_ble_eq_true rfl⟩) (hP.sub [0, 1, 2, 3, 4, 5] rfl) hK hN (ci := 5) rfl rfl rfl hl.1 rfl (Nat.le_of_ble_eq_true rfl) dX5_bestTriplet_64 ⟨Nat.zero_le _, Nat.zero_le _⟩ (fun r hr0 => ?_)
              subst hr0
              refine lv_lstore (lv' := [(8, .long (gTri G k9 k27 k45)), (7, .int (nI k45)), (6, .int (nI k27)), (5, .int (nI k9)), (3, .long z45.2), (1, .long z45.1), (0, .ref (q 0))]) hx hb dX5_bestTriplet_67 hl (by decide) rfl (fun ls hl => ?_)
              refine lv_lload hx hb dX5_bestTriplet_69 (lv_at hl 0 rfl) ?_
              refine lv_lconst (v := 0) hx hb dX5_bestTriplet_71 (by decide) ?_
              refine rl_iflt (tgt := 111) hx hb dX5_bestTriplet_72 dX5_bestTriplet_73 (by decide) (fun h72 => ?_) (fun h72 => ?_)
              · refine lv_iinc (v := nI (k45 + 1)) (lv' := [(7, .int (nI (k45 + 1))), (8, .long (gTri G k9 k27 k45)), (6, .int (nI k27)), (5, .int (nI k9)), (3, .long z45.2), (1, .long z45.1), (0, .ref (q 0))]) hx hb dX5_bestTriplet_111 hl (k := 1) rfl (by first | rfl | exact nI_add _ _) (by decide) rfl (fun ls hl => ?_)
                refine lv_goto (tgt := 45) hx hb dX5_bestTriplet_114 (by decide) ?_
                exact ih45 z45 ((if_neg (fun w => absurd w.1 (Int64.not_le.mpr h72))).symm) (trivial) ls (lv_sub hl [0, 2, 3, 4, 5, 6] rfl)
              · refine lv_lload_n hx hb dX5_bestTriplet_76 rfl (lv_at hl 5 rfl) ?_
                refine lv_ldc2 (v := (-9000000000000000008)) hx hb hown (hts (.constantLong RX5 139 (-9000000000000000008)) (by decide +kernel)) dX5_bestTriplet_77 ?_
                refine rl_ifeq (tgt := 91) hx hb dX5_bestTriplet_80 dX5_bestTriplet_81 (by decide) (fun h80 => ?_) (fun h80 => ?_)
                · refine lv_sipush (v := 10000) hx hb dX5_bestTriplet_91 (by decide) ?_
                  refine lv_iload hx hb dX5_bestTriplet_94 (lv_at hl 3 rfl) ?_
                  refine lv_imul hx hb dX5_bestTriplet_96 ?_
                  refine rw_topi (pk_mul 10000 k9) ?_
                  refine lv_bipush (v := 100) hx hb dX5_bestTriplet_97 (by decide) ?_
                  refine lv_iload hx hb dX5_bestTriplet_99 (lv_at hl 2 rfl) ?_
                  refine lv_imul hx hb dX5_bestTriplet_101 ?_
                  refine rw_topi (pk_mul 100 k27) ?_
                  refine lv_iadd hx hb dX5_bestTriplet_102 ?_
                  refine rw_topi (nI_add (10000 * k9) (100 * k27)) ?_
                  refine lv_iload hx hb dX5_bestTriplet_103 (lv_at hl 1 rfl) ?_
                  refine lv_iadd hx hb dX5_bestTriplet_105 ?_
                  refine rw_topi (nI_add ((10000 * k9) + (100 * k27)) k45) ?_
                  refine lv_i2l (v := lN (((10000 * k9) + (100 * k27)) + k45)) hx hb dX5_bestTriplet_106 (nI_l (by omega)) ?_
                  refine lv_lstore_n (lv' := [(1, .long (lN (((10000 * k9) + (100 * k27)) + k45))), (8, .long (gTri G k9 k27 k45)), (7, .int (nI k45)), (6, .int (nI k27)), (5, .int (nI k9)), (3, .long z45.2), (0, .ref (q 0))]) hx hb dX5_bestTriplet_107 rfl hl (by decide) rfl (fun ls hl => ?_)
                  refine lv_lload hx hb dX5_bestTriplet_108 (lv_at hl 1 rfl) ?_
                  refine lv_lstore_n (lv' := [(3, .long (gTri G k9 k27 k45)), (1, .long (lN (((10000 * k9) + (100 * k27)) + k45))), (8, .long (gTri G k9 k27 k45)), (7, .int (nI k45)), (6, .int (nI k27)), (5, .int (nI k9)), (0, .ref (q 0))]) hx hb dX5_bestTriplet_110 rfl hl (by decide) rfl (fun ls hl => ?_)
                  refine lv_iinc (v := nI (k45 + 1)) (lv' := [(7, .int (nI (k45 + 1))), (3, .long (gTri G k9 k27 k45)), (1, .long (lN (((10000 * k9) + (100 * k27)) + k45))), (8, .long (gTri G k9 k27 k45)), (6, .int (nI k27)), (5, .int (nI k9)), (0, .ref (q 0))]) hx hb dX5_bestTriplet_111 hl (k := 3) rfl (by first | rfl | exact nI_add _ _) (by decide) rfl (fun ls hl => ?_)
                  refine lv_goto (tgt := 45) hx hb dX5_bestTriplet_114 (by decide) ?_
                  exact ih45 (lN (((10000 * k9) + (100 * k27)) + k45), gTri G k9 k27 k45) ((if_pos ⟨Int64.not_lt.mp h72, Or.inl h80⟩).symm) (trivial) ls (lv_sub hl [0, 4, 5, 1, 2, 6] rfl)
                · refine lv_lload hx hb dX5_bestTriplet_84 (lv_at hl 0 rfl) ?_
                  refine lv_lload_n hx hb dX5_bestTriplet_86 rfl (lv_at hl 4 rfl) ?_
                  refine rl_ifge (tgt := 111) hx hb dX5_bestTriplet_87 dX5_bestTriplet_88 (by decide) (fun h87 => ?_) (fun h87 => ?_)
                  · refine lv_iinc (v := nI (k45 + 1)) (lv' := [(7, .int (nI (k45 + 1))), (8, .long (gTri G k9 k27 k45)), (6, .int (nI k27)), (5, .int (nI k9)), (3, .long z45.2), (1, .long z45.1), (0, .ref (q 0))]) hx hb dX5_bestTriplet_111 hl (k := 1) rfl (by first | rfl | exact nI_add _ _) (by decide) rfl (fun ls hl => ?_)
                    refine lv_goto (tgt := 45) hx hb dX5_bestTriplet_114 (by decide) ?_
                    exact ih45 z45 ((if_neg (fun w => w.2.elim h80 h87)).symm) (trivial) ls (lv_sub hl [0, 2, 3, 4, 5, 6] rfl)
                  · refine lv_sipush (v := 10000) hx hb dX5_bestTriplet_91 (by decide) ?_
                    refine lv_iload hx hb dX5_bestTriplet_94 (lv_at hl 3 rfl) ?_
                    refine lv_imul hx hb dX5_bestTriplet_96 ?_
                    refine rw_topi (pk_mul 10000 k9) ?_
                    refine lv_bipush (v := 100) hx hb dX5_bestTriplet_97 (by decide) ?_
                    refine lv_iload hx hb dX5_bestTriplet_99 (lv_at hl 2 rfl) ?_
                    refine lv_imul hx hb dX5_bestTriplet_101 ?_
                    refine rw_topi (pk_mul 100 k27) ?_
                    refine lv_iadd hx hb dX5_bestTriplet_102 ?_
                    refine rw_topi (nI_add (10000 * k9) (100 * k27)) ?_
                    refine lv_iload hx hb dX5_bestTriplet_103 (lv_at hl 1 rfl) ?_
                    refine lv_iadd hx hb dX5_bestTriplet_105 ?_
                    refine rw_topi (nI_add ((10000 * k9) + (100 * k27)) k45) ?_
                    refine lv_i2l (v := lN (((10000 * k9) + (100 * k27)) + k45)) hx hb dX5_bestTriplet_106 (nI_l (by omega)) ?_
                    refine lv_lstore_n (lv' := [(1, .long (lN (((10000 * k9) + (100 * k27)) + k45))), (8, .long (gTri G k9 k27 k45)), (7, .int (nI k45)), (6, .int (nI k27)), (5, .int (nI k9)), (3, .long z45.2), (0, .ref (q 0))]) hx hb dX5_bestTriplet_107 rfl hl (by decide) rfl (fun ls hl => ?_)
                    refine lv_lload hx hb dX5_bestTriplet_108 (lv_at hl 1 rfl) ?_
                    refine lv_lstore_n (lv' := [(3, .long (gTri G k9 k27 k45)), (1, .long (lN (((10000 * k9) + (100 * k27)) + k45))), (8, .long (gTri G k9 k27 k45)), (7, .int (nI k45)), (6, .int (nI k27)), (5, .int (nI k9)), (0, .ref (q 0))]) hx hb dX5_bestTriplet_110 rfl hl (by decide) rfl (fun ls hl => ?_)
                    refine lv_iinc (v := nI (k45 + 1)) (lv' := [(7, .int (nI (k45 + 1))), (3, .long (gTri G k9 k27 k45)), (1, .long (lN (((10000 * k9) + (100 * k27)) + k45))), (8, .long (gTri G k9 k27 k45)), (6, .int (nI k27)), (5, .int (nI k9)), (0, .ref (q 0))]) hx hb dX5_bestTriplet_111 hl (k := 3) rfl (by first | rfl | exact nI_add _ _) (by decide) rfl (fun ls hl => ?_)
                    refine lv_goto (tgt := 45) hx hb dX5_bestTriplet_114 (by decide) ?_
                    exact ih45 (lN (((10000 * k9) + (100 * k27)) + k45), gTri G k9 k27 k45) ((if_pos ⟨Int64.not_lt.mp h72, Or.inr h87⟩).symm) (trivial) ls (lv_sub hl [0, 4, 5, 1, 2, 6] rfl)
          · refine lv_iload hx hb dX5_bestTriplet_45 (lv_at hl 0 rfl) ?_
            refine lv_aload_n hx hb dX5_bestTriplet_47 rfl (lv_at hl 5 rfl) ?_
            refine va_get (D := (dC, dI)) (ci := 5) (v := .ref (q 3)) (C := RX5) (T := TX5) (N := 5) hx hb hts (by decide +kernel) hown hK hP 0 rfl rfl 1 (by decide) (hts (.fieldLink RX5 19 "AchromatDesk" "glasses" "LAchromatDesk$Catalogue;") (by decide +kernel)) (fun _ h9 => h9) rfl dX5_bestTriplet_48 ?_
            refine va_getN (D := (dC, dI)) (ci := 0) (v := .int (nI n)) (C := RX0) (T := TX0) (N := 5) hx hb hts (by decide +kernel) hown hK hP 1 rfl rfl 4 (by decide) (va_Nw.use (w := .fieldLinkNest "AchromatDesk" 77 "AchromatDesk$Catalogue" "count" "I" "AchromatDesk") rfl (hN.at 2 rfl)) (fun _ h9 => h9) rfl dX5_bestTriplet_51 ?_
            refine rn_ge (tgt := 117) hx hb n n rfl rfl (by omega) (by omega) dX5_bestTriplet_54 (by decide) (fun h54 => ?_) (fun h54 => ?_)
            · refine lv_iinc (v := nI (k27 + 1)) (lv' := [(6, .int (nI (k27 + 1))), (7, .int (nI n)), (5, .int (nI k9)), (3, .long z45.2), (1, .long z45.1), (0, .ref (q 0))]) hx hb dX5_bestTriplet_117 hl (k := 1) rfl (by first | rfl | exact nI_add _ _) (by decide) rfl (fun ls hl => ?_)
              refine lv_goto (tgt := 27) hx hb dX5_bestTriplet_120 (by decide) ?_
              exact ih27 z45 (hz45) (trivial) ls (lv_sub hl [0, 2, 3, 4, 5] rfl)
            · exfalso; omega
      · refine lv_iload hx hb dX5_bestTriplet_27 (lv_at hl 0 rfl) ?_
        refine lv_aload_n hx hb dX5_bestTriplet_29 rfl (lv_at hl 4 rfl) ?_
        refine va_get (D := (dC, dI)) (ci := 5) (v := .ref (q 3)) (C := RX5) (T := TX5) (N := 5) hx hb hts (by decide +kernel) hown hK hP 0 rfl rfl 1 (by decide) (hts (.fieldLink RX5 19 "AchromatDesk" "glasses" "LAchromatDesk$Catalogue;") (by decide +kernel)) (fun _ h9 => h9) rfl dX5_bestTriplet_30 ?_
        refine va_getN (D := (dC, dI)) (ci := 0) (v := .int (nI n)) (C := RX0) (T := TX0) (N := 5) hx hb hts (by decide +kernel) hown hK hP 1 rfl rfl 4 (by decide) (va_Nw.use (w := .fieldLinkNest "AchromatDesk" 77 "AchromatDesk$Catalogue" "count" "I" "AchromatDesk") rfl (hN.at 2 rfl)) (fun _ h9 => h9) rfl dX5_bestTriplet_33 ?_
        refine rn_ge (tgt := 123) hx hb n n rfl rfl (by omega) (by omega) dX5_bestTriplet_36 (by decide) (fun h36 => ?_) (fun h36 => ?_)
        · refine lv_iinc (v := nI (k9 + 1)) (lv' := [(5, .int (nI (k9 + 1))), (6, .int (nI n)), (3, .long z27.2), (1, .long z27.1), (0, .ref (q 0))]) hx hb dX5_bestTriplet_123 hl (k := 1) rfl (by first | rfl | exact nI_add _ _) (by decide) rfl (fun ls hl => ?_)
          refine lv_goto (tgt := 9) hx hb dX5_bestTriplet_126 (by decide) ?_
          exact ih9 z27 (hz27) (trivial) ls (lv_sub hl [0, 2, 3, 4] rfl)
        · exfalso; omega
  · refine lv_iload hx hb dX5_bestTriplet_9 (lv_at hl 0 rfl) ?_
    refine lv_aload_n hx hb dX5_bestTriplet_11 rfl (lv_at hl 3 rfl) ?_
    refine va_get (D := (dC, dI)) (ci := 5) (v := .ref (q 3)) (C := RX5) (T := TX5) (N := 5) hx hb hts (by decide +kernel) hown hK hP 0 rfl rfl 1 (by decide) (hts (.fieldLink RX5 19 "AchromatDesk" "glasses" "LAchromatDesk$Catalogue;") (by decide +kernel)) (fun _ h9 => h9) rfl dX5_bestTriplet_12 ?_
    refine va_getN (D := (dC, dI)) (ci := 0) (v := .int (nI n)) (C := RX0) (T := TX0) (N := 5) hx hb hts (by decide +kernel) hown hK hP 1 rfl rfl 4 (by decide) (va_Nw.use (w := .fieldLinkNest "AchromatDesk" 77 "AchromatDesk$Catalogue" "count" "I" "AchromatDesk") rfl (hN.at 2 rfl)) (fun _ h9 => h9) rfl dX5_bestTriplet_15 ?_
    refine rn_ge (tgt := 129) hx hb n n rfl rfl (by omega) (by omega) dX5_bestTriplet_18 (by decide) (fun h18 => ?_) (fun h18 => ?_)
    · refine lv_lload_n hx hb dX5_bestTriplet_129 rfl (lv_at hl 2 rfl) ?_
      exact W.lret hx hb hr (fun t ht hW => ⟨_, rfl, by rw [hz9]; rfl, ht⟩) (fun _ h => absurd h List.not_mem_nil) dX5_bestTriplet_130
    · exfalso; omega
