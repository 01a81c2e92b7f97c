set_option maxHeartbeats 4000000 in
set_option maxRecDepth 100000 in
theorem c_X5_systemPower (l : Launch) (dC : Nat → ClassId) (dI : Nat → Nat → Nat) (cI cJ : ClassId) (q : Nat → Nat) (G : GL) (n : Nat) (hn : n ≤ 20) (lg lp : Nat → Int32) (k : Nat) (hk : k ≤ 8) (hL : lOK lg k n) (cl : Int32) : Met l yX5_systemPower wsX5_systemPower ({ frames := 4, cells := 0, slots := 0, locals := 99 }) (va_Pc [.ref (q 0), .int cl] (RO (dC, dI) (tyK cI cJ) ([(q 0, .inr (5, [.ref (q 1), .ref (q 3), .ref (q 8), .ref (q 14), .ref (q 17)])), (q 3, .inr (0, [.ref (q 4), .ref (q 5), .ref (q 6), .ref (q 7), .int (nI n)])), (q 4, .inl (cJ, 20, .inr (.inl (gK G)))), (q 5, .inl (cI, 20, .inl (gF G))), (q 6, .inl (cI, 20, .inl (gD G))), (q 7, .inl (cI, 20, .inl (gC G))), (q 14, .inr (3, [.ref (q 15), .ref (q 16), .int (nI k)])), (q 15, .inl (cI, 8, .inl lg)), (q 16, .inl (cI, 8, .inl lp))]))) (vp_Sl (fun r => r = sSys G lg lp k cl)) 0 0 (fun _ => False) := by
  refine Met.ofW (cc := cX5_systemPower) (maxL := 2) (ret := (some .long)) (by decide) rfl ?_
  intro p e s m args below meth c s₁ B hml hv
  obtain ⟨rfl, hP, hK, hN⟩ := hv
  have hx := B.exec
  have hb := B.bytes
  have hr := B.returns
  have hts := atoms_spec (ws := wsX5_systemPower) B.pre
  have hown : s.vm.findClass RX5 = some m.cls := findClass_of_methodNamed B.named
  have hlocks := B.notSynchronized
  have hP : va_P (dC, dI) vwCl [(q 0, .inr (5, [.ref (q 1), .ref (q 3), .ref (q 8), .ref (q 14), .ref (q 17)])), (q 3, .inr (0, [.ref (q 4), .ref (q 5), .ref (q 6), .ref (q 7), .int (nI n)])), (q 4, .inl (cJ, 20, .inr (.inl (gK G)))), (q 5, .inl (cI, 20, .inl (gF G))), (q 6, .inl (cI, 20, .inl (gD G))), (q 7, .inl (cI, 20, .inl (gC G))), (q 14, .inr (3, [.ref (q 15), .ref (q 16), .int (nI k)])), (q 15, .inl (cI, 8, .inl lg)), (q 16, .inl (cI, 8, .inl lp))] s.heap := hP
  have hl := lv_entry ([.ref (q 0), .int cl]) (n := 2) (Nat.le_of_ble_eq_true rfl)
  rw [lg_entry_eq]
  generalize (lg_sl ([.ref (q 0), .int cl]) ++ List.replicate (2 - (lg_sl ([.ref (q 0), .int cl])).length) Slot.unset).toArray = ls at hl ⊢
  have hl : lv_has ls 2 [(0, .ref (q 0)), (1, .int cl)] := hl
  refine lv_iload_n hx hb dX5_systemPower_0 rfl (lv_at hl 1 rfl) ?_
  refine stSi (As := [.int cl]) (rest := []) (c_X5_isColour l cl) ⟨hx, hb, hml, hown, hts⟩ (va_cwS 1 hts gX5_systemPower_X5_isColour rfl rfl rfl (by decide +kernel) ⟨Nat.le_of_ble_eq_true rfl, Nat.le_of_ble_eq_true rfl⟩) rfl hl.1 rfl (Nat.le_of_ble_eq_true rfl) dX5_systemPower_1 ⟨Nat.zero_le _, Nat.zero_le _⟩ (fun r hr0 => ?_)
  subst hr0
  refine rb_eq (tgt := 22) hx hb dX5_systemPower_4 (by decide) (fun h4 => ?_) (fun h4 => ?_)
  · refine lv_ldc2 (v := (-9000000000000000001)) hx hb hown (hts (.constantLong RX5 44 (-9000000000000000001)) (by decide +kernel)) dX5_systemPower_22 ?_
    exact W.lret hx hb hr (fun t ht hW => ⟨_, rfl, by rw [sSys, if_neg h4], ht⟩) (fun _ h => absurd h List.not_mem_nil) dX5_systemPower_25
  · refine lv_aload_n hx hb dX5_systemPower_7 rfl (lv_at hl 0 rfl) ?_
    refine va_get (D := (dC, dI)) (ci := 5) (v := .ref (q 14)) (C := RX5) (T := TX5) (N := 5) hx hb hts (by decide +kernel) hown hK hP 0 rfl rfl 3 (by decide) (hts (.fieldLink RX5 33 "AchromatDesk" "system" "LAchromatDesk$LensSystem;") (by decide +kernel)) (fun _ h9 => h9) rfl dX5_systemPower_8 ?_
    refine lv_iload_n hx hb dX5_systemPower_11 rfl (lv_at hl 1 rfl) ?_
    refine lv_aload_n hx hb dX5_systemPower_12 rfl (lv_at hl 0 rfl) ?_
    refine va_get (D := (dC, dI)) (ci := 5) (v := .ref (q 3)) (C := RX5) (T := TX5) (N := 5) hx hb hts (by decide +kernel) hown hK hP 0 rfl rfl 1 (by decide) (hts (.fieldLink RX5 19 "AchromatDesk" "glasses" "LAchromatDesk$Catalogue;") (by decide +kernel)) (fun _ h9 => h9) rfl dX5_systemPower_13 ?_
    refine roVl (As := [.int cl, .ref (q 3)]) (rest := []) (c_X3_powerFor l dC dI cI cJ q G n hn lg lp k hk hL cl) ⟨hx, hb, hml, hown, hts⟩ (cwV 2 hts gX5_systemPower_X3_powerFor rfl rfl rfl (by decide +kernel) ⟨Nat.le_of_ble_eq_true rfl, Nat.le_of_ble_eq_true rfl⟩) (hP.sub [6, 7, 8, 1, 2, 3, 4, 5] rfl) hK hN (ci := 3) rfl rfl rfl hl.1 rfl (Nat.le_of_ble_eq_true rfl) dX5_systemPower_16 ⟨Nat.zero_le _, Nat.zero_le _⟩ (fun r hr0 => ?_)
    subst hr0
    refine lv_goto (tgt := 25) hx hb dX5_systemPower_19 (by decide) ?_
    exact W.lret hx hb hr (fun t ht hW => ⟨_, rfl, by rw [sSys, if_pos h4], ht⟩) (fun _ h => absurd h List.not_mem_nil) dX5_systemPower_25

set_option maxHeartbeats 4000000 in
set_option maxRecDepth 100000 in
theorem c_X5_balancePower (l : Launch) (dC : Nat → ClassId) (dI : Nat → Nat → Nat) (cI cJ : ClassId) (q : Nat → Nat) (G : GL) (n : Nat) (hn : n ≤ 20) (lg lp : Nat → Int32) (k : Nat) (hk : k ≤ 8) (hL : lOK lg k n) (x : Int32) : Met l yX5_balancePower wsX5_balancePower ({ frames := 4, cells := 0, slots := 0, locals := 99 }) (va_Pc [.ref (q 0), .int x] (RO (dC, dI) (tyK cI cJ) ([(q 0, .inr (5, [.ref (q 1), .ref (q 3), .ref (q 8), .ref (q 14), .ref (q 17)])), (q 3, .inr (0, [.ref (q 4), .ref (q 5), .ref (q 6), .ref (q 7), .int (nI n)])), (q 4, .inl (cJ, 20, .inr (.inl (gK G)))), (q 5, .inl (cI, 20, .inl (gF G))), (q 6, .inl (cI, 20, .inl (gD G))), (q 7, .inl (cI, 20, .inl (gC G))), (q 14, .inr (3, [.ref (q 15), .ref (q 16), .int (nI k)])), (q 15, .inl (cI, 8, .inl lg)), (q 16, .inl (cI, 8, .inl lp))]))) (vp_Sl (fun r => r = sBal G lg lp k n x)) 0 0 (fun _ => False) := by
  refine Met.ofW (cc := cX5_balancePower) (maxL := 4) (ret := (some .long)) (by decide) rfl ?_
  intro p e s m args below meth c s₁ B hml hv
  obtain ⟨rfl, hP, hK, hN⟩ := hv
  have hx := B.exec
  have hb := B.bytes
  have hr := B.returns
  have hts := atoms_spec (ws := wsX5_balancePower) B.pre
  have hown : s.vm.findClass RX5 = some m.cls := findClass_of_methodNamed B.named
  have hlocks := B.notSynchronized
  have hP : va_P (dC, dI) vwCl [(q 0, .inr (5, [.ref (q 1), .ref (q 3), .ref (q 8), .ref (q 14), .ref (q 17)])), (q 3, .inr (0, [.ref (q 4), .ref (q 5), .ref (q 6), .ref (q 7), .int (nI n)])), (q 4, .inl (cJ, 20, .inr (.inl (gK G)))), (q 5, .inl (cI, 20, .inl (gF G))), (q 6, .inl (cI, 20, .inl (gD G))), (q 7, .inl (cI, 20, .inl (gC G))), (q 14, .inr (3, [.ref (q 15), .ref (q 16), .int (nI k)])), (q 15, .inl (cI, 8, .inl lg)), (q 16, .inl (cI, 8, .inl lp))] s.heap := hP
  have hl := lv_entry ([.ref (q 0), .int x]) (n := 4) (Nat.le_of_ble_eq_true rfl)
  rw [lg_entry_eq]
  generalize (lg_sl ([.ref (q 0), .int x]) ++ List.replicate (4 - (lg_sl ([.ref (q 0), .int x])).length) Slot.unset).toArray = ls at hl ⊢
  have hl : lv_has ls 4 [(0, .ref (q 0)), (1, .int x)] := hl
  refine lv_aload_n hx hb dX5_balancePower_0 rfl (lv_at hl 0 rfl) ?_
  refine va_get (D := (dC, dI)) (ci := 5) (v := .ref (q 3)) (C := RX5) (T := TX5) (N := 5) hx hb hts (by decide +kernel) hown hK hP 0 rfl rfl 1 (by decide) (hts (.fieldLink RX5 19 "AchromatDesk" "glasses" "LAchromatDesk$Catalogue;") (by decide +kernel)) (fun _ h9 => h9) rfl dX5_balancePower_1 ?_
  refine lv_iload_n hx hb dX5_balancePower_4 rfl (lv_at hl 1 rfl) ?_
  refine roVi (As := [.int x]) (rest := []) (c_X0_has l dC dI cI cJ q G n hn x) ⟨hx, hb, hml, hown, hts⟩ (cwV 1 hts gX5_balancePower_X0_has rfl rfl rfl (by decide +kernel) ⟨Nat.le_of_ble_eq_true rfl, Nat.le_of_ble_eq_true rfl⟩) (hP.sub [1, 2, 3, 4, 5] rfl) hK hN (ci := 0) rfl rfl rfl hl.1 rfl (Nat.le_of_ble_eq_true rfl) dX5_balancePower_5 ⟨Nat.zero_le _, Nat.zero_le _⟩ (fun r hr0 => ?_)
  subst hr0
  refine rb_ne (tgt := 15) hx hb dX5_balancePower_8 (by decide) (fun h8 => ?_) (fun h8 => ?_)
  · obtain ⟨g, hg, eg⟩ := hasP_ex (by omega) h8
    subst eg
    refine lv_aload_n hx hb dX5_balancePower_15 rfl (lv_at hl 0 rfl) ?_
    refine va_get (D := (dC, dI)) (ci := 5) (v := .ref (q 14)) (C := RX5) (T := TX5) (N := 5) hx hb hts (by decide +kernel) hown hK hP 0 rfl rfl 3 (by decide) (hts (.fieldLink RX5 33 "AchromatDesk" "system" "LAchromatDesk$LensSystem;") (by decide +kernel)) (fun _ h9 => h9) rfl dX5_balancePower_16 ?_
    refine lv_iconst (v := 0) hx hb dX5_balancePower_19 (by decide) ?_
    refine lv_aload_n hx hb dX5_balancePower_20 rfl (lv_at hl 0 rfl) ?_
    refine va_get (D := (dC, dI)) (ci := 5) (v := .ref (q 3)) (C := RX5) (T := TX5) (N := 5) hx hb hts (by decide +kernel) hown hK hP 0 rfl rfl 1 (by decide) (hts (.fieldLink RX5 19 "AchromatDesk" "glasses" "LAchromatDesk$Catalogue;") (by decide +kernel)) (fun _ h9 => h9) rfl dX5_balancePower_21 ?_
    refine roVl (As := [.int 0, .ref (q 3)]) (rest := []) (c_X3_powerFor l dC dI cI cJ q G n hn lg lp k hk hL 0) ⟨hx, hb, hml, hown, hts⟩ (cwV 2 hts gX5_balancePower_X3_powerFor rfl rfl rfl (by decide +kernel) ⟨Nat.le_of_ble_eq_true rfl, Nat.le_of_ble_eq_true rfl⟩) (hP.sub [6, 7, 8, 1, 2, 3, 4, 5] rfl) hK hN (ci := 3) rfl rfl rfl hl.1 rfl (Nat.le_of_ble_eq_true rfl) dX5_balancePower_24 ⟨Nat.zero_le _, Nat.zero_le _⟩ (fun r hr0 => ?_)
    subst hr0
    refine lv_aload_n hx hb dX5_balancePower_27 rfl (lv_at hl 0 rfl) ?_
    refine va_get (D := (dC, dI)) (ci := 5) (v := .ref (q 14)) (C := RX5) (T := TX5) (N := 5) hx hb hts (by decide +kernel) hown hK hP 0 rfl rfl 3 (by decide) (hts (.fieldLink RX5 33 "AchromatDesk" "system" "LAchromatDesk$LensSystem;") (by decide +kernel)) (fun _ h9 => h9) rfl dX5_balancePower_28 ?_
    refine lv_iconst (v := 2) hx hb dX5_balancePower_31 (by decide) ?_
    refine lv_aload_n hx hb dX5_balancePower_32 rfl (lv_at hl 0 rfl) ?_
    refine va_get (D := (dC, dI)) (ci := 5) (v := .ref (q 3)) (C := RX5) (T := TX5) (N := 5) hx hb hts (by decide +kernel) hown hK hP 0 rfl rfl 1 (by decide) (hts (.fieldLink RX5 19 "AchromatDesk" "glasses" "LAchromatDesk$Catalogue;") (by decide +kernel)) (fun _ h9 => h9) rfl dX5_balancePower_33 ?_
    refine roVl (As := [.int 2, .ref (q 3)]) (rest := [.long (vP G lg lp 0 k)]) (c_X3_powerFor l dC dI cI cJ q G n hn lg lp k hk hL 2) ⟨hx, hb, hml, hown, hts⟩ (cwV 2 hts gX5_balancePower_X3_powerFor rfl rfl rfl (by decide +kernel) ⟨Nat.le_of_ble_eq_true rfl, Nat.le_of_ble_eq_true rfl⟩) (hP.sub [6, 7, 8, 1, 2, 3, 4, 5] rfl) hK hN (ci := 3) rfl rfl rfl hl.1 rfl (Nat.le_of_ble_eq_true rfl) dX5_balancePower_36 ⟨Nat.zero_le _, Nat.zero_le _⟩ (fun r hr0 => ?_)
    subst hr0
    refine lv_lsub hx hb dX5_balancePower_39 ?_
    refine lv_lstore_n (lv' := [(2, .long ((vP G lg lp 0 k) - (vP G lg lp 2 k))), (0, .ref (q 0)), (1, .int (nI g))]) hx hb dX5_balancePower_40 rfl hl (by decide) rfl (fun ls hl => ?_)
    refine lv_lload_n hx hb dX5_balancePower_41 rfl (lv_at hl 0 rfl) ?_
    refine lv_lneg hx hb dX5_balancePower_42 ?_
    refine lv_aload_n hx hb dX5_balancePower_43 rfl (lv_at hl 1 rfl) ?_
    refine va_get (D := (dC, dI)) (ci := 5) (v := .ref (q 3)) (C := RX5) (T := TX5) (N := 5) hx hb hts (by decide +kernel) hown hK hP 0 rfl rfl 1 (by decide) (hts (.fieldLink RX5 19 "AchromatDesk" "glasses" "LAchromatDesk$Catalogue;") (by decide +kernel)) (fun _ h9 => h9) rfl dX5_balancePower_44 ?_
    refine lv_iload_n hx hb dX5_balancePower_47 rfl (lv_at hl 2 rfl) ?_
    refine roVl (As := [.int (nI g)]) (rest := [.long (-((vP G lg lp 0 k) - (vP G lg lp 2 k)))]) (c_X0_valueA l dC dI cI cJ q G n hn g (by omega)) ⟨hx, hb, hml, hown, hts⟩ (cwV 1 hts gX5_balancePower_X0_valueA rfl rfl rfl (by decide +kernel) ⟨Nat.le_of_ble_eq_true rfl, Nat.le_of_ble_eq_true rfl⟩) (hP.sub [1, 2, 3, 4, 5] rfl) hK hN (ci := 0) rfl rfl rfl hl.1 rfl (Nat.le_of_ble_eq_true rfl) dX5_balancePower_48 ⟨Nat.zero_le _, Nat.zero_le _⟩ (fun r hr0 => ?_)
    subst hr0
    refine lv_lmul hx hb dX5_balancePower_51 ?_
    refine lv_ldc2 (v := 1000) hx hb hown (hts (.constantLong RX5 150 (1000)) (by decide +kernel)) dX5_balancePower_52 ?_
    refine lv_aload_n hx hb dX5_balancePower_55 rfl (lv_at hl 1 rfl) ?_
    refine va_get (D := (dC, dI)) (ci := 5) (v := .ref (q 3)) (C := RX5) (T := TX5) (N := 5) hx hb hts (by decide +kernel) hown hK hP 0 rfl rfl 1 (by decide) (hts (.fieldLink RX5 19 "AchromatDesk" "glasses" "LAchromatDesk$Catalogue;") (by decide +kernel)) (fun _ h9 => h9) rfl dX5_balancePower_56 ?_
    refine lv_iload_n hx hb dX5_balancePower_59 rfl (lv_at hl 2 rfl) ?_
    refine roVl (As := [.int (nI g)]) (rest := [.long 1000, .long ((-((vP G lg lp 0 k) - (vP G lg lp 2 k))) * (vA G g))]) (c_X0_valueB l dC dI cI cJ q G n hn g (by omega)) ⟨hx, hb, hml, hown, hts⟩ (cwV 1 hts gX5_balancePower_X0_valueB rfl rfl rfl (by decide +kernel) ⟨Nat.le_of_ble_eq_true rfl, Nat.le_of_ble_eq_true rfl⟩) (hP.sub [1, 2, 3, 4, 5] rfl) hK hN (ci := 0) rfl rfl rfl hl.1 rfl (Nat.le_of_ble_eq_true rfl) dX5_balancePower_60 ⟨Nat.zero_le _, Nat.zero_le _⟩ (fun r hr0 => ?_)
    subst hr0
    refine lv_lmul hx hb dX5_balancePower_63 ?_
    refine stSl (As := [.long ((-((vP G lg lp 0 k) - (vP G lg lp 2 k))) * (vA G g)), .long (1000 * (vB G g))]) (rest := []) (c_X5_floorQuotient l ((-((vP G lg lp 0 k) - (vP G lg lp 2 k))) * (vA G g)) (1000 * (vB G g))) ⟨hx, hb, hml, hown, hts⟩ (va_cwS 2 hts gX5_balancePower_X5_floorQuotient rfl rfl rfl (by decide +kernel) ⟨Nat.le_of_ble_eq_true rfl, Nat.le_of_ble_eq_true rfl⟩) rfl hl.1 rfl (Nat.le_of_ble_eq_true rfl) dX5_balancePower_64 ⟨Nat.zero_le _, Nat.zero_le _⟩ (fun r hr0 => ?_)
    subst hr0
    exact W.lret hx hb hr (fun t ht hW => ⟨_, rfl, by rw [sBal, if_pos h8, ix_nI (by omega)]; rfl, ht⟩) (fun _ h => absurd h List.not_mem_nil) dX5_balancePower_67
  · refine lv_ldc2 (v := (-9000000000000000002)) hx hb hown (hts (.constantLong RX5 97 (-9000000000000000002)) (by decide +kernel)) dX5_balancePower_11 ?_
    exact W.lret hx hb hr (fun t ht hW => ⟨_, rfl, by rw [sBal, if_neg h8], ht⟩) (fun _ h => absurd h List.not_mem_nil) dX5_balancePower_14

set_option maxHeartbeats 4000000 in
set_option maxRecDepth 100000 in
theorem c_X5_missWith (l : Launch) (dC : Nat → ClassId) (dI : Nat → Nat → Nat) (cI cJ : ClassId) (q : Nat → Nat) (G : GL) (n : Nat) (hn : n ≤ 20) (lg lp : Nat → Int32) (k : Nat) (hk : k ≤ 8) (hL : lOK lg k n) (j g : Nat) (hj : j < k) (hg : g < n) (e0 e1 e2 : Int64) : Met l yX5_missWith wsX5_missWith ({ frames := 4, cells := 0, slots := 0, locals := 98 }) (va_Pc [.ref (q 0), .int (nI j), .int (nI g), .long e0, .long e1, .long e2] (RO (dC, dI) (tyK cI cJ) ([(q 0, .inr (5, [.ref (q 1), .ref (q 3), .ref (q 8), .ref (q 14), .ref (q 17)])), (q 3, .inr (0, [.ref (q 4), .ref (q 5), .ref (q 6), .ref (q 7), .int (nI n)])), (q 4, .inl (cJ, 20, .inr (.inl (gK G)))), (q 5, .inl (cI, 20, .inl (gF G))), (q 6, .inl (cI, 20, .inl (gD G))), (q 7, .inl (cI, 20, .inl (gC G))), (q 14, .inr (3, [.ref (q 15), .ref (q 16), .int (nI k)])), (q 15, .inl (cI, 8, .inl lg)), (q 16, .inl (cI, 8, .inl lp))]))) (vp_Sl (fun r => r = vM G lg lp e0 e1 e2 j g)) 0 0 (fun _ => False) := by
  refine Met.ofW (cc := cX5_missWith) (maxL := 9) (ret := (some .long)) (by decide) rfl ?_
  intro p e s m args below meth c s₁ B hml hv
  obtain ⟨rfl, hP, hK, hN⟩ := hv
  have hx := B.exec
  have hb := B.bytes
  have hr := B.returns
  have hts := atoms_spec (ws := wsX5_missWith) B.pre
  have hown : s.vm.findClass RX5 = some m.cls := findClass_of_methodNamed B.named
  have hlocks := B.notSynchronized
  have hP : va_P (dC, dI) vwCl [(q 0, .inr (5, [.ref (q 1), .ref (q 3), .ref (q 8), .ref (q 14), .ref (q 17)])), (q 3, .inr (0, [.ref (q 4), .ref (q 5), .ref (q 6), .ref (q 7), .int (nI n)])), (q 4, .inl (cJ, 20, .inr (.inl (gK G)))), (q 5, .inl (cI, 20, .inl (gF G))), (q 6, .inl (cI, 20, .inl (gD G))), (q 7, .inl (cI, 20, .inl (gC G))), (q 14, .inr (3, [.ref (q 15), .ref (q 16), .int (nI k)])), (q 15, .inl (cI, 8, .inl lg)), (q 16, .inl (cI, 8, .inl lp))] s.heap := hP
  have hl := lv_entry ([.ref (q 0), .int (nI j), .int (nI g), .long e0, .long e1, .long e2]) (n := 9) (Nat.le_of_ble_eq_true rfl)
  rw [lg_entry_eq]
  generalize (lg_sl ([.ref (q 0), .int (nI j), .int (nI g), .long e0, .long e1, .long e2]) ++ List.replicate (9 - (lg_sl ([.ref (q 0), .int (nI j), .int (nI g), .long e0, .long e1, .long e2])).length) Slot.unset).toArray = ls at hl ⊢
  have hl : lv_has ls 9 [(0, .ref (q 0)), (1, .int (nI j)), (2, .int (nI g)), (3, .long e0), (5, .long e1), (7, .long e2)] := hl
  refine lv_lload_n hx hb dX5_missWith_0 rfl (lv_at hl 3 rfl) ?_
  refine lv_aload_n hx hb dX5_missWith_1 rfl (lv_at hl 0 rfl) ?_
  refine va_get (D := (dC, dI)) (ci := 5) (v := .ref (q 14)) (C := RX5) (T := TX5) (N := 5) hx hb hts (by decide +kernel) hown hK hP 0 rfl rfl 3 (by decide) (hts (.fieldLink RX5 33 "AchromatDesk" "system" "LAchromatDesk$LensSystem;") (by decide +kernel)) (fun _ h9 => h9) rfl dX5_missWith_2 ?_
  refine lv_iload_n hx hb dX5_missWith_5 rfl (lv_at hl 1 rfl) ?_
  refine lv_iload_n hx hb dX5_missWith_6 rfl (lv_at hl 2 rfl) ?_
  refine lv_iconst (v := 0) hx hb dX5_missWith_7 (by decide) ?_
  refine lv_aload_n hx hb dX5_missWith_8 rfl (lv_at hl 0 rfl) ?_
  refine va_get (D := (dC, dI)) (ci := 5) (v := .ref (q 3)) (C := RX5) (T := TX5) (N := 5) hx hb hts (by decide +kernel) hown hK hP 0 rfl rfl 1 (by decide) (hts (.fieldLink RX5 19 "AchromatDesk" "glasses" "LAchromatDesk$Catalogue;") (by decide +kernel)) (fun _ h9 => h9) rfl dX5_missWith_9 ?_
  refine roVl (As := [.int (nI j), .int (nI g), .int 0, .ref (q 3)]) (rest := [.long e0]) (c_X3_changeWith l dC dI cI cJ q G n hn lg lp k hk hL j (by omega) g (by omega) 0) ⟨hx, hb, hml, hown, hts⟩ (cwV 4 hts gX5_missWith_X3_changeWith rfl rfl rfl (by decide +kernel) ⟨Nat.le_of_ble_eq_true rfl, Nat.le_of_ble_eq_true rfl⟩) (hP.sub [6, 7, 8, 1, 2, 3, 4, 5] rfl) hK hN (ci := 3) rfl rfl rfl hl.1 rfl (Nat.le_of_ble_eq_true rfl) dX5_missWith_12 ⟨Nat.zero_le _, Nat.zero_le _⟩ (fun r hr0 => ?_)
  subst hr0
  refine lv_ladd hx hb dX5_missWith_15 ?_
  refine va_mabs_long hx hb (by rw [hml]; exact hl.1.symm) hown (hts (.methodLink RX5 218 Lib.MathLoose.abs_long.x) (by decide +kernel)) (hts (.static Lib.MathLoose.abs_long.x) (by decide +kernel)) (hts (.initialized "java/lang/Math") (by decide +kernel)) (hts (.code Lib.MathLoose.abs_long.x Lib.MathLoose.abs_long.code 2 (some .long)) (by decide +kernel)) (Nat.le_of_ble_eq_true rfl) (Nat.le_of_ble_eq_true rfl) (Nat.zero_le _) (Nat.zero_le _) dX5_missWith_16 ?_
  refine lv_lload hx hb dX5_missWith_19 (lv_at hl 4 rfl) ?_
  refine lv_aload_n hx hb dX5_missWith_21 rfl (lv_at hl 0 rfl) ?_
  refine va_get (D := (dC, dI)) (ci := 5) (v := .ref (q 14)) (C := RX5) (T := TX5) (N := 5) hx hb hts (by decide +kernel) hown hK hP 0 rfl rfl 3 (by decide) (hts (.fieldLink RX5 33 "AchromatDesk" "system" "LAchromatDesk$LensSystem;") (by decide +kernel)) (fun _ h9 => h9) rfl dX5_missWith_22 ?_
  refine lv_iload_n hx hb dX5_missWith_25 rfl (lv_at hl 1 rfl) ?_
  refine lv_iload_n hx hb dX5_missWith_26 rfl (lv_at hl 2 rfl) ?_
  refine lv_iconst (v := 1) hx hb dX5_missWith_27 (by decide) ?_
  refine lv_aload_n hx hb dX5_missWith_28 rfl (lv_at hl 0 rfl) ?_
  refine va_get (D := (dC, dI)) (ci := 5) (v := .ref (q 3)) (C := RX5) (T := TX5) (N := 5) hx hb hts (by decide +kernel) hown hK hP 0 rfl rfl 1 (by decide) (hts (.fieldLink RX5 19 "AchromatDesk" "glasses" "LAchromatDesk$Catalogue;") (by decide +kernel)) (fun _ h9 => h9) rfl dX5_missWith_29 ?_
  refine roVl (As := [.int (nI j), .int (nI g), .int 1, .ref (q 3)]) (rest := [.long e1, .long (labs (e0 + vCh G lg lp j g 0))]) (c_X3_changeWith l dC dI cI cJ q G n hn lg lp k hk hL j (by omega) g (by omega) 1) ⟨hx, hb, hml, hown, hts⟩ (cwV 4 hts gX5_missWith_X3_changeWith rfl rfl rfl (by decide +kernel) ⟨Nat.le_of_ble_eq_true rfl, Nat.le_of_ble_eq_true rfl⟩) (hP.sub [6, 7, 8, 1, 2, 3, 4, 5] rfl) hK hN (ci := 3) rfl rfl rfl hl.1 rfl (Nat.le_of_ble_eq_true rfl) dX5_missWith_32 ⟨Nat.zero_le _, Nat.zero_le _⟩ (fun r hr0 => ?_)
  subst hr0
  refine lv_ladd hx hb dX5_missWith_35 ?_
  refine va_mabs_long hx hb (by rw [hml]; exact hl.1.symm) hown (hts (.methodLink RX5 218 Lib.MathLoose.abs_long.x) (by decide +kernel)) (hts (.static Lib.MathLoose.abs_long.x) (by decide +kernel)) (hts (.initialized "java/lang/Math") (by decide +kernel)) (hts (.code Lib.MathLoose.abs_long.x Lib.MathLoose.abs_long.code 2 (some .long)) (by decide +kernel)) (Nat.le_of_ble_eq_true rfl) (Nat.le_of_ble_eq_true rfl) (Nat.zero_le _) (Nat.zero_le _) dX5_missWith_36 ?_
  refine lv_ladd hx hb dX5_missWith_39 ?_
  refine lv_lload hx hb dX5_missWith_40 (lv_at hl 5 rfl) ?_
  refine lv_aload_n hx hb dX5_missWith_42 rfl (lv_at hl 0 rfl) ?_
  refine va_get (D := (dC, dI)) (ci := 5) (v := .ref (q 14)) (C := RX5) (T := TX5) (N := 5) hx hb hts (by decide +kernel) hown hK hP 0 rfl rfl 3 (by decide) (hts (.fieldLink RX5 33 "AchromatDesk" "system" "LAchromatDesk$LensSystem;") (by decide +kernel)) (fun _ h9 => h9) rfl dX5_missWith_43 ?_
  refine lv_iload_n hx hb dX5_missWith_46 rfl (lv_at hl 1 rfl) ?_
  refine lv_iload_n hx hb dX5_missWith_47 rfl (lv_at hl 2 rfl) ?_
  refine lv_iconst (v := 2) hx hb dX5_missWith_48 (by decide) ?_
  refine lv_aload_n hx hb dX5_missWith_49 rfl (lv_at hl 0 rfl) ?_
  refine va_get (D := (dC, dI)) (ci := 5) (v := .ref (q 3)) (C := RX5) (T := TX5) (N := 5) hx hb hts (by decide +kernel) hown hK hP 0 rfl rfl 1 (by decide) (hts (.fieldLink RX5 19 "AchromatDesk" "glasses" "LAchromatDesk$Catalogue;") (by decide +kernel)) (fun _ h9 => h9) rfl dX5_missWith_50 ?_
  refine roVl (As := [.int (nI j), .int (nI g), .int 2, .ref (q 3)]) (rest := [.long e2, .long ((labs (e0 + vCh G lg lp j g 0)) + (labs (e1 + vCh G lg lp j g 1)))]) (c_X3_changeWith l dC dI cI cJ q G n hn lg lp k hk hL j (by omega) g (by omega) 2) ⟨hx, hb, hml, hown, hts⟩ (cwV 4 hts gX5_missWith_X3_changeWith rfl rfl rfl (by decide +kernel) ⟨Nat.le_of_ble_eq_true rfl, Nat.le_of_ble_eq_true rfl⟩) (hP.sub [6, 7, 8, 1, 2, 3, 4, 5] rfl) hK hN (ci := 3) rfl rfl rfl hl.1 rfl (Nat.le_of_ble_eq_true rfl) dX5_missWith_53 ⟨Nat.zero_le _, Nat.zero_le _⟩ (fun r hr0 => ?_)
  subst hr0
  refine lv_ladd hx hb dX5_missWith_56 ?_
  refine va_mabs_long hx hb (by rw [hml]; exact hl.1.symm) hown (hts (.methodLink RX5 218 Lib.MathLoose.abs_long.x) (by decide +kernel)) (hts (.static Lib.MathLoose.abs_long.x) (by decide +kernel)) (hts (.initialized "java/lang/Math") (by decide +kernel)) (hts (.code Lib.MathLoose.abs_long.x Lib.MathLoose.abs_long.code 2 (some .long)) (by decide +kernel)) (Nat.le_of_ble_eq_true rfl) (Nat.le_of_ble_eq_true rfl) (Nat.zero_le _) (Nat.zero_le _) dX5_missWith_57 ?_
  refine lv_ladd hx hb dX5_missWith_60 ?_
  exact W.lret hx hb hr (fun t ht hW => ⟨_, rfl, rfl, ht⟩) (fun _ h => absurd h List.not_mem_nil) dX5_missWith_61

set_option maxHeartbeats 4000000 in
set_option maxRecDepth 100000 in
theorem c_X5_findWrongGlass (l : Launch) (dC : Nat → ClassId) (dI : Nat → Nat → Nat) (cI cJ : ClassId) (q : Nat → Nat) (G : GL) (n : Nat) (hn : n ≤ 20) (lg lp : Nat → Int32) (k : Nat) (hk : k ≤ 8) (hL : lOK lg k n) (a0 a1 a2 : Int64) (hM : isMea a0 → isMea a1 → isMea a2 → ∀ j g, j < k → g < n → 0 ≤ vM G lg lp (vP G lg lp 0 k - a0) (vP G lg lp 1 k - a1) (vP G lg lp 2 k - a2) j g) : Met l yX5_findWrongGlass wsX5_findWrongGlass ({ frames := 5, cells := 0, slots := 0, locals := 126 }) (va_Pc [.ref (q 0), .long a0, .long a1, .long a2] (RO (dC, dI) (tyK cI cJ) ([(q 0, .inr (5, [.ref (q 1), .ref (q 3), .ref (q 8), .ref (q 14), .ref (q 17)])), (q 3, .inr (0, [.ref (q 4), .ref (q 5), .ref (q 6), .ref (q 7), .int (nI n)])), (q 4, .inl (cJ, 20, .inr (.inl (gK G)))), (q 5, .inl (cI, 20, .inl (gF G))), (q 6, .inl (cI, 20, .inl (gD G))), (q 7, .inl (cI, 20, .inl (gC G))), (q 14, .inr (3, [.ref (q 15), .ref (q 16), .int (nI k)])), (q 15, .inl (cI, 8, .inl lg)), (q 16, .inl (cI, 8, .inl lp))]))) (vp_Sl (fun r => r = sWr G lg lp k n a0 a1 a2)) 0 0 (fun _ => False) := by
  refine Met.ofW (cc := cX5_findWrongGlass) (maxL := 22) (ret := (some .long)) (by decide) rfl ?_
  intro p e s m args below meth c s₁ B hml hv
  obtain ⟨rfl, hP, hK, hN⟩ := hv
  have hx := B.exec
  have hb := B.bytes
  have hr := B.returns
  have hts := atoms_spec (ws := wsX5_findWrongGlass) B.pre
  have hown : s.vm.findClass RX5 = some m.cls := findClass_of_methodNamed B.named
  have hlocks := B.notSynchronized
  have hP : va_P (dC, dI) vwCl [(q 0, .inr (5, [.ref (q 1), .ref (q 3), .ref (q 8), .ref (q 14), .ref (q 17)])), (q 3, .inr (0, [.ref (q 4), .ref (q 5), .ref (q 6), .ref (q 7), .int (nI n)])), (q 4, .inl (cJ, 20, .inr (.inl (gK G)))), (q 5, .inl (cI, 20, .inl (gF G))), (q 6, .inl (cI, 20, .inl (gD G))), (q 7, .inl (cI, 20, .inl (gC G))), (q 14, .inr (3, [.ref (q 15), .ref (q 16), .int (nI k)])), (q 15, .inl (cI, 8, .inl lg)), (q 16, .inl (cI, 8, .inl lp))] s.heap := hP
  have hl := lv_entry ([.ref (q 0), .long a0, .long a1, .long a2]) (n := 22) (Nat.le_of_ble_eq_true rfl)
  rw [lg_entry_eq]
  generalize (lg_sl ([.ref (q 0), .long a0, .long a1, .long a2]) ++ List.replicate (22 - (lg_sl ([.ref (q 0), .long a0, .long a1, .long a2])).length) Slot.unset).toArray = ls at hl ⊢
  have hl : lv_has ls 22 [(0, .ref (q 0)), (1, .long a0), (3, .long a1), (5, .long a2)] := hl
  refine lv_lload_n hx hb dX5_findWrongGlass_0 rfl (lv_at hl 1 rfl) ?_
  refine stSi (As := [.long a0]) (rest := []) (c_X5_isMeasurable l a0) ⟨hx, hb, hml, hown, hts⟩ (va_cwS 1 hts gX5_findWrongGlass_X5_isMeasurable rfl rfl rfl (by decide +kernel) ⟨Nat.le_of_ble_eq_true rfl, Nat.le_of_ble_eq_true rfl⟩) rfl hl.1 rfl (Nat.le_of_ble_eq_true rfl) dX5_findWrongGlass_1 ⟨Nat.zero_le _, Nat.zero_le _⟩ (fun r hr0 => ?_)
  subst hr0
  refine rb_eq (tgt := 22) hx hb dX5_findWrongGlass_4 (by decide) (fun h4 => ?_) (fun h4 => ?_)
  · refine lv_ldc2 (v := (-9000000000000000001)) hx hb hown (hts (.constantLong RX5 44 (-9000000000000000001)) (by decide +kernel)) dX5_findWrongGlass_22 ?_
    exact W.lret hx hb hr (fun t ht hW => ⟨_, rfl, by rw [sWr, if_neg (fun w => h4 w.1)], ht⟩) (fun _ h => absurd h List.not_mem_nil) dX5_findWrongGlass_25
  · refine lv_lload_n hx hb dX5_findWrongGlass_7 rfl (lv_at hl 2 rfl) ?_
    refine stSi (As := [.long a1]) (rest := []) (c_X5_isMeasurable l a1) ⟨hx, hb, hml, hown, hts⟩ (va_cwS 1 hts gX5_findWrongGlass_X5_isMeasurable rfl rfl rfl (by decide +kernel) ⟨Nat.le_of_ble_eq_true rfl, Nat.le_of_ble_eq_true rfl⟩) rfl hl.1 rfl (Nat.le_of_ble_eq_true rfl) dX5_findWrongGlass_8 ⟨Nat.zero_le _, Nat.zero_le _⟩ (fun r hr0 => ?_)
    subst hr0
    refine rb_eq (tgt := 22) hx hb dX5_findWrongGlass_11 (by decide) (fun h11 => ?_) (fun h11 => ?_)
    · refine lv_ldc2 (v := (-9000000000000000001)) hx hb hown (hts (.constantLong RX5 44 (-9000000000000000001)) (by decide +kernel)) dX5_findWrongGlass_22 ?_
      exact W.lret hx hb hr (fun t ht hW => ⟨_, rfl, by rw [sWr, if_neg (fun w => h11 w.2.1)], ht⟩) (fun _ h => absurd h List.not_mem_nil) dX5_findWrongGlass_25
    · refine lv_lload hx hb dX5_findWrongGlass_14 (lv_at hl 3 rfl) ?_
      refine stSi (As := [.long a2]) (rest := []) (c_X5_isMeasurable l a2) ⟨hx, hb, hml, hown, hts⟩ (va_cwS 1 hts gX5_findWrongGlass_X5_isMeasurable rfl rfl rfl (by decide +kernel) ⟨Nat.le_of_ble_eq_true rfl, Nat.le_of_ble_eq_true rfl⟩) rfl hl.1 rfl (Nat.le_of_ble_eq_true rfl) dX5_findWrongGlass_16 ⟨Nat.zero_le _, Nat.zero_le _⟩ (fun r hr0 => ?_)
      subst hr0
      refine rb_ne (tgt := 26) hx hb dX5_findWrongGlass_19 (by decide) (fun h19 => ?_) (fun h19 => ?_)
      · refine lv_aload_n hx hb dX5_findWrongGlass_26 rfl (lv_at hl 0 rfl) ?_
        refine va_get (D := (dC, dI)) (ci := 5) (v := .ref (q 14)) (C := RX5) (T := TX5) (N := 5) hx hb hts (by decide +kernel) hown hK hP 0 rfl rfl 3 (by decide) (hts (.fieldLink RX5 33 "AchromatDesk" "system" "LAchromatDesk$LensSystem;") (by decide +kernel)) (fun _ h9 => h9) rfl dX5_findWrongGlass_27 ?_
        refine lv_iconst (v := 0) hx hb dX5_findWrongGlass_30 (by decide) ?_
        refine lv_aload_n hx hb dX5_findWrongGlass_31 rfl (lv_at hl 0 rfl) ?_
        refine va_get (D := (dC, dI)) (ci := 5) (v := .ref (q 3)) (C := RX5) (T := TX5) (N := 5) hx hb hts (by decide +kernel) hown hK hP 0 rfl rfl 1 (by decide) (hts (.fieldLink RX5 19 "AchromatDesk" "glasses" "LAchromatDesk$Catalogue;") (by decide +kernel)) (fun _ h9 => h9) rfl dX5_findWrongGlass_32 ?_
        refine roVl (As := [.int 0, .ref (q 3)]) (rest := []) (c_X3_powerFor l dC dI cI cJ q G n hn lg lp k hk hL 0) ⟨hx, hb, hml, hown, hts⟩ (cwV 2 hts gX5_findWrongGlass_X3_powerFor rfl rfl rfl (by decide +kernel) ⟨Nat.le_of_ble_eq_true rfl, Nat.le_of_ble_eq_true rfl⟩) (hP.sub [6, 7, 8, 1, 2, 3, 4, 5] rfl) hK hN (ci := 3) rfl rfl rfl hl.1 rfl (Nat.le_of_ble_eq_true rfl) dX5_findWrongGlass_35 ⟨Nat.zero_le _, Nat.zero_le _⟩ (fun r hr0 => ?_)
        subst hr0
        refine lv_lload_n hx hb dX5_findWrongGlass_38 rfl (lv_at hl 1 rfl) ?_
        refine lv_lsub hx hb dX5_findWrongGlass_39 ?_
        refine lv_lstore (lv' := [(7, .long ((vP G lg lp 0 k) - a0)), (0, .ref (q 0)), (1, .long a0), (3, .long a1), (5, .long a2)]) hx hb dX5_findWrongGlass_40 hl (by decide) rfl (fun ls hl => ?_)
        refine lv_aload_n hx hb dX5_findWrongGlass_42 rfl (lv_at hl 1 rfl) ?_
        refine va_get (D := (dC, dI)) (ci := 5) (v := .ref (q 14)) (C := RX5) (T := TX5) (N := 5) hx hb hts (by decide +kernel) hown hK hP 0 rfl rfl 3 (by decide) (hts (.fieldLink RX5 33 "AchromatDesk" "system" "LAchromatDesk$LensSystem;") (by decide +kernel)) (fun _ h9 => h9) rfl dX5_findWrongGlass_43 ?_
        refine lv_iconst (v := 1) hx hb dX5_findWrongGlass_46 (by decide) ?_
        refine lv_aload_n hx hb dX5_findWrongGlass_47 rfl (lv_at hl 1 rfl) ?_
        refine va_get (D := (dC, dI)) (ci := 5) (v := .ref (q 3)) (C := RX5) (T := TX5) (N := 5) hx hb hts (by decide +kernel) hown hK hP 0 rfl rfl 1 (by decide) (hts (.fieldLink RX5 19 "AchromatDesk" "glasses" "LAchromatDesk$Catalogue;") (by decide +kernel)) (fun _ h9 => h9) rfl dX5_findWrongGlass_48 ?_
        refine roVl (As := [.int 1, .ref (q 3)]) (rest := []) (c_X3_powerFor l dC dI cI cJ q G n hn lg lp k hk hL 1) ⟨hx, hb, hml, hown, hts⟩ (cwV 2 hts gX5_findWrongGlass_X3_powerFor rfl rfl rfl (by decide +kernel) ⟨Nat.le_of_ble_eq_true rfl, Nat.le_of_ble_eq_true rfl⟩) (hP.sub [6, 7, 8, 1, 2, 3, 4, 5] rfl) hK hN (ci := 3) rfl rfl rfl hl.1 rfl (Nat.le_of_ble_eq_true rfl) dX5_findWrongGlass_51 ⟨Nat.zero_le _, Nat.zero_le _⟩ (fun r hr0 => ?_)
        subst hr0
        refine lv_lload_n hx hb dX5_findWrongGlass_54 rfl (lv_at hl 3 rfl) ?_
        refine lv_lsub hx hb dX5_findWrongGlass_55 ?_
        refine lv_lstore (lv' := [(9, .long ((vP G lg lp 1 k) - a1)), (7, .long ((vP G lg lp 0 k) - a0)), (0, .ref (q 0)), (1, .long a0), (3, .long a1), (5, .long a2)]) hx hb dX5_findWrongGlass_56 hl (by decide) rfl (fun ls hl => ?_)
        refine lv_aload_n hx hb dX5_findWrongGlass_58 rfl (lv_at hl 2 rfl) ?_
        refine va_get (D := (dC, dI)) (ci := 5) (v := .ref (q 14)) (C := RX5) (T := TX5) (N := 5) hx hb hts (by decide +kernel) hown hK hP 0 rfl rfl 3 (by decide) (hts (.fieldLink RX5 33 "AchromatDesk" "system" "LAchromatDesk$LensSystem;") (by decide +kernel)) (fun _ h9 => h9) rfl dX5_findWrongGlass_59 ?_
        refine lv_iconst (v := 2) hx hb dX5_findWrongGlass_62 (by decide) ?_
        refine lv_aload_n hx hb dX5_findWrongGlass_63 rfl (lv_at hl 2 rfl) ?_
        refine va_get (D := (dC, dI)) (ci := 5) (v := .ref (q 3)) (C := RX5) (T := TX5) (N := 5) hx hb hts (by decide +kernel) hown hK hP 0 rfl rfl 1 (by decide) (hts (.fieldLink RX5 19 "AchromatDesk" "glasses" "LAchromatDesk$Catalogue;") (by decide +kernel)) (fun _ h9 => h9) rfl dX5_findWrongGlass_64 ?_
        refine roVl (As := [.int 2, .ref (q 3)]) (rest := []) (c_X3_powerFor l dC dI cI cJ q G n hn lg lp k hk hL 2) ⟨hx, hb, hml, hown, hts⟩ (cwV 2 hts gX5_findWrongGlass_X3_powerFor rfl rfl rfl (by decide +kernel) ⟨Nat.le_of_ble_eq_true rfl, Nat.le_of_ble_eq_true rfl⟩) (hP.sub [6, 7, 8, 1, 2, 3, 4, 5] rfl) hK hN (ci := 3) rfl rfl rfl hl.1 rfl (Nat.le_of_ble_eq_true rfl) dX5_findWrongGlass_67 ⟨Nat.zero_le _, Nat.zero_le _⟩ (fun r hr0 => ?_)
        subst hr0
        refine lv_lload hx hb dX5_findWrongGlass_70 (lv_at hl 5 rfl) ?_
        refine lv_lsub hx hb dX5_findWrongGlass_72 ?_
        refine lv_lstore (lv' := [(11, .long ((vP G lg lp 2 k) - a2)), (9, .long ((vP G lg lp 1 k) - a1)), (7, .long ((vP G lg lp 0 k) - a0)), (0, .ref (q 0)), (1, .long a0), (3, .long a1), (5, .long a2)]) hx hb dX5_findWrongGlass_73 hl (by decide) rfl (fun ls hl => ?_)
        refine lv_ldc2 (v := (-9000000000000000008)) hx hb hown (hts (.constantLong RX5 139 (-9000000000000000008)) (by decide +kernel)) dX5_findWrongGlass_75 ?_
        refine lv_lstore (lv' := [(13, .long (-9000000000000000008)), (11, .long ((vP G lg lp 2 k) - a2)), (9, .long ((vP G lg lp 1 k) - a1)), (7, .long ((vP G lg lp 0 k) - a0)), (0, .ref (q 0)), (1, .long a0), (3, .long a1), (5, .long a2)]) hx hb dX5_findWrongGlass_78 hl (by decide) rfl (fun ls hl => ?_)
        refine lv_lconst (v := 0) hx hb dX5_findWrongGlass_80 (by decide) ?_
        refine lv_lstore (lv' := [(15, .long 0), (13, .long (-9000000000000000008)), (11, .long ((vP G lg lp 2 k) - a2)), (9, .long ((vP G lg lp 1 k) - a1)), (7, .long ((vP G lg lp 0 k) - a0)), (0, .ref (q 0)), (1, .long a0), (3, .long a1), (5, .long a2)]) hx hb dX5_findWrongGlass_81 hl (by decide) rfl (fun ls hl => ?_)
        refine lv_iconst (v := 0) hx hb dX5_findWrongGlass_83 (by decide) ?_
        refine lv_istore (lv' := [(17, .int 0), (15, .long 0), (13, .long (-9000000000000000008)), (11, .long ((vP G lg lp 2 k) - a2)), (9, .long ((vP G lg lp 1 k) - a1)), (7, .long ((vP G lg lp 0 k) - a0)), (0, .ref (q 0)), (1, .long a0), (3, .long a1), (5, .long a2)]) hx hb dX5_findWrongGlass_84 hl (by decide) rfl (fun ls hl => ?_)
        refine rloopZ (nL := 22) 0 k (fun j b => wrg2 G lg lp n (vP G lg lp 0 k - a0) (vP G lg lp 1 k - a1) (vP G lg lp 2 k - a2) j b) (cNO, 0) (fun k86 z86 => [(17, .int (nI k86)), (15, .long z86.2), (13, .long z86.1), (11, .long ((vP G lg lp 2 k) - a2)), (9, .long ((vP G lg lp 1 k) - a1)), (7, .long ((vP G lg lp 0 k) - a0)), (0, .ref (q 0)), (1, .long a0), (3, .long a1), (5, .long a2)]) (fun _ _ => True) (by omega) (trivial) (lv_sub hl [0, 1, 2, 3, 4, 5, 6, 7, 8, 9] rfl) (fun k86 z86 hlo86 hk86 hz86 hI86 ls hl ih86 => ?_) (fun z86 hz86 hI86 ls hl => ?_)
        · refine lv_iload hx hb dX5_findWrongGlass_86 (lv_at hl 0 rfl) ?_
          refine lv_aload_n hx hb dX5_findWrongGlass_88 rfl (lv_at hl 6 rfl) ?_
          refine va_get (D := (dC, dI)) (ci := 5) (v := .ref (q 14)) (C := RX5) (T := TX5) (N := 5) hx hb hts (by decide +kernel) hown hK hP 0 rfl rfl 3 (by decide) (hts (.fieldLink RX5 33 "AchromatDesk" "system" "LAchromatDesk$LensSystem;") (by decide +kernel)) (fun _ h9 => h9) rfl dX5_findWrongGlass_89 ?_
          refine va_getN (D := (dC, dI)) (ci := 3) (v := .int (nI k)) (C := RX3) (T := TX3) (N := 3) hx hb hts (by decide +kernel) hown hK hP 6 rfl rfl 2 (by decide) (va_Nw.use (w := .fieldLinkNest "AchromatDesk" 178 "AchromatDesk$LensSystem" "count" "I" "AchromatDesk") rfl (hN.at 4 rfl)) (fun _ h9 => h9) rfl dX5_findWrongGlass_92 ?_
          refine rn_ge (tgt := 199) hx hb k86 k rfl rfl (by omega) (by omega) dX5_findWrongGlass_95 (by decide) (fun h95 => ?_) (fun h95 => ?_)
          · exfalso; omega
          · refine lv_iconst (v := 0) hx hb dX5_findWrongGlass_98 (by decide) ?_
            refine lv_istore (lv' := [(18, .int 0), (17, .int (nI k86)), (15, .long z86.2), (13, .long z86.1), (11, .long ((vP G lg lp 2 k) - a2)), (9, .long ((vP G lg lp 1 k) - a1)), (7, .long ((vP G lg lp 0 k) - a0)), (0, .ref (q 0)), (1, .long a0), (3, .long a1), (5, .long a2)]) hx hb dX5_findWrongGlass_99 hl (by decide) rfl (fun ls hl => ?_)
            refine rloopZ (nL := 22) 0 n (fun g b => pick b (lN (100 * k86 + g)) (if nI g = lg k86 then -1 else vM G lg lp (vP G lg lp 0 k - a0) (vP G lg lp 1 k - a1) (vP G lg lp 2 k - a2) k86 g)) z86 (fun k101 z101 => [(18, .int (nI k101)), (17, .int (nI k86)), (15, .long z101.2), (13, .long z101.1), (11, .long ((vP G lg lp 2 k) - a2)), (9, .long ((vP G lg lp 1 k) - a1)), (7, .long ((vP G lg lp 0 k) - a0)), (0, .ref (q 0)), (1, .long a0), (3, .long a1), (5, .long a2)]) (fun _ _ => True) (by omega) (trivial) (lv_sub hl [0, 1, 2, 3, 4, 5, 6, 7, 8, 9, 10] rfl) (fun k101 z101 hlo101 hk101 hz101 hI101 ls hl ih101 => ?_) (fun z101 hz101 hI101 ls hl => ?_)
            · refine lv_iload hx hb dX5_findWrongGlass_101 (lv_at hl 0 rfl) ?_
              refine lv_aload_n hx hb dX5_findWrongGlass_103 rfl (lv_at hl 7 rfl) ?_
              refine va_get (D := (dC, dI)) (ci := 5) (v := .ref (q 3)) (C := RX5) (T := TX5) (N := 5) hx hb hts (by decide +kernel) hown hK hP 0 rfl rfl 1 (by decide) (hts (.fieldLink RX5 19 "AchromatDesk" "glasses" "LAchromatDesk$Catalogue;") (by decide +kernel)) (fun _ h9 => h9) rfl dX5_findWrongGlass_104 ?_
              refine va_getN (D := (dC, dI)) (ci := 0) (v := .int (nI n)) (C := RX0) (T := TX0) (N := 5) hx hb hts (by decide +kernel) hown hK hP 1 rfl rfl 4 (by decide) (va_Nw.use (w := .fieldLinkNest "AchromatDesk" 77 "AchromatDesk$Catalogue" "count" "I" "AchromatDesk") rfl (hN.at 2 rfl)) (fun _ h9 => h9) rfl dX5_findWrongGlass_107 ?_
              refine rn_ge (tgt := 193) hx hb k101 n rfl rfl (by omega) (by omega) dX5_findWrongGlass_110 (by decide) (fun h110 => ?_) (fun h110 => ?_)
              · exfalso; omega
              · refine lv_aload_n hx hb dX5_findWrongGlass_113 rfl (lv_at hl 7 rfl) ?_
                refine lv_iload hx hb dX5_findWrongGlass_114 (lv_at hl 1 rfl) ?_
                refine lv_iload hx hb dX5_findWrongGlass_116 (lv_at hl 0 rfl) ?_
                refine lv_lload hx hb dX5_findWrongGlass_118 (lv_at hl 6 rfl) ?_
                refine lv_lload hx hb dX5_findWrongGlass_120 (lv_at hl 5 rfl) ?_
                refine lv_lload hx hb dX5_findWrongGlass_122 (lv_at hl 4 rfl) ?_
                refine roVl (As := [.int (nI k86), .int (nI k101), .long ((vP G lg lp 0 k) - a0), .long ((vP G lg lp 1 k) - a1), .long ((vP G lg lp 2 k) - a2)]) (rest := []) (c_X5_missWith l dC dI cI cJ q G n hn lg lp k hk hL k86 k101 (by omega) (by omega) ((vP G lg lp 0 k) - a0) ((vP G lg lp 1 k) - a1) ((vP G lg lp 2 k) - a2)) ⟨hx, hb, hml, hown, hts⟩ (cwV 5 hts gX5_findWrongGlass_X5_missWith rfl rfl rfl (by decide +kernel) ⟨Nat.le_of_ble_eq_true rfl, Nat.le_of_ble_eq_true rfl⟩) (hP.sub [0, 1, 2, 3, 4, 5, 6, 7, 8] rfl) hK hN (ci := 5) rfl rfl rfl hl.1 rfl (Nat.le_of_ble_eq_true rfl) dX5_findWrongGlass_124 ⟨Nat.zero_le _, Nat.zero_le _⟩ (fun r hr0 => ?_)
                subst hr0
                refine lv_lstore (lv' := [(19, .long (vM G lg lp ((vP G lg lp 0 k) - a0) ((vP G lg lp 1 k) - a1) ((vP G lg lp 2 k) - a2) k86 k101)), (18, .int (nI k101)), (17, .int (nI k86)), (15, .long z101.2), (13, .long z101.1), (11, .long ((vP G lg lp 2 k) - a2)), (9, .long ((vP G lg lp 1 k) - a1)), (7, .long ((vP G lg lp 0 k) - a0)), (0, .ref (q 0)), (1, .long a0), (3, .long a1), (5, .long a2)]) hx hb dX5_findWrongGlass_127 hl (by decide) rfl (fun ls hl => ?_)
                refine rjoin (nL := 22) 148 [(19, .long (vM G lg lp ((vP G lg lp 0 k) - a0) ((vP G lg lp 1 k) - a1) ((vP G lg lp 2 k) - a2) k86 k101)), (18, .int (nI k101)), (17, .int (nI k86)), (15, .long z101.2), (13, .long z101.1), (11, .long ((vP G lg lp 2 k) - a2)), (9, .long ((vP G lg lp 1 k) - a1)), (7, .long ((vP G lg lp 0 k) - a0)), (0, .ref (q 0)), (1, .long a0), (3, .long a1), (5, .long a2)] [.int (if ¬ nI k101 = lg k86 then 1 else 0)] (fun ls hl => ?_) (fun hj148 => ?_)
                · refine lv_istore (lv' := [(21, .int (if ¬ nI k101 = lg k86 then 1 else 0)), (19, .long (vM G lg lp ((vP G lg lp 0 k) - a0) ((vP G lg lp 1 k) - a1) ((vP G lg lp 2 k) - a2) k86 k101)), (18, .int (nI k101)), (17, .int (nI k86)), (15, .long z101.2), (13, .long z101.1), (11, .long ((vP G lg lp 2 k) - a2)), (9, .long ((vP G lg lp 1 k) - a1)), (7, .long ((vP G lg lp 0 k) - a0)), (0, .ref (q 0)), (1, .long a0), (3, .long a1), (5, .long a2)]) hx hb dX5_findWrongGlass_148 hl (by decide) rfl (fun ls hl => ?_)
                  refine lv_iload hx hb dX5_findWrongGlass_150 (lv_at hl 0 rfl) ?_
                  refine rb_eq (tgt := 187) hx hb dX5_findWrongGlass_152 (by decide) (fun h152 => ?_) (fun h152 => ?_)
                  · refine lv_iinc (v := nI (k101 + 1)) (lv' := [(18, .int (nI (k101 + 1))), (21, .int (if ¬ nI k101 = lg k86 then 1 else 0)), (19, .long (vM G lg lp ((vP G lg lp 0 k) - a0) ((vP G lg lp 1 k) - a1) ((vP G lg lp 2 k) - a2) k86 k101)), (17, .int (nI k86)), (15, .long z101.2), (13, .long z101.1), (11, .long ((vP G lg lp 2 k) - a2)), (9, .long ((vP G lg lp 1 k) - a1)), (7, .long ((vP G lg lp 0 k) - a0)), (0, .ref (q 0)), (1, .long a0), (3, .long a1), (5, .long a2)]) hx hb dX5_findWrongGlass_187 hl (k := 2) rfl (by first | rfl | exact nI_add _ _) (by decide) rfl (fun ls hl => ?_)
                    refine lv_goto (tgt := 101) hx hb dX5_findWrongGlass_190 (by decide) ?_
                    exact ih101 z101 ((pick_own (Decidable.byContradiction h152) _ _ _).symm) (trivial) ls (lv_sub hl [0, 3, 4, 5, 6, 7, 8, 9, 10, 11, 12] rfl)
                  · refine lv_lload hx hb dX5_findWrongGlass_155 (lv_at hl 5 rfl) ?_
                    refine lv_ldc2 (v := (-9000000000000000008)) hx hb hown (hts (.constantLong RX5 139 (-9000000000000000008)) (by decide +kernel)) dX5_findWrongGlass_157 ?_
                    refine rl_ifeq (tgt := 172) hx hb dX5_findWrongGlass_160 dX5_findWrongGlass_161 (by decide) (fun h160 => ?_) (fun h160 => ?_)
                    · refine lv_bipush (v := 100) hx hb dX5_findWrongGlass_172 (by decide) ?_
                      refine lv_iload hx hb dX5_findWrongGlass_174 (lv_at hl 3 rfl) ?_
                      refine lv_imul hx hb dX5_findWrongGlass_176 ?_
                      refine rw_topi (pk_mul 100 k86) ?_
                      refine lv_iload hx hb dX5_findWrongGlass_177 (lv_at hl 2 rfl) ?_
                      refine lv_iadd hx hb dX5_findWrongGlass_179 ?_
                      refine rw_topi (nI_add (100 * k86) k101) ?_
                      refine lv_i2l (v := lN ((100 * k86) + k101)) hx hb dX5_findWrongGlass_180 (nI_l (by omega)) ?_
                      refine lv_lstore (lv' := [(13, .long (lN ((100 * k86) + k101))), (21, .int (if ¬ nI k101 = lg k86 then 1 else 0)), (19, .long (vM G lg lp ((vP G lg lp 0 k) - a0) ((vP G lg lp 1 k) - a1) ((vP G lg lp 2 k) - a2) k86 k101)), (18, .int (nI k101)), (17, .int (nI k86)), (15, .long z101.2), (11, .long ((vP G lg lp 2 k) - a2)), (9, .long ((vP G lg lp 1 k) - a1)), (7, .long ((vP G lg lp 0 k) - a0)), (0, .ref (q 0)), (1, .long a0), (3, .long a1), (5, .long a2)]) hx hb dX5_findWrongGlass_181 hl (by decide) rfl (fun ls hl => ?_)
                      refine lv_lload hx hb dX5_findWrongGlass_183 (lv_at hl 2 rfl) ?_
                      refine lv_lstore (lv' := [(15, .long (vM G lg lp ((vP G lg lp 0 k) - a0) ((vP G lg lp 1 k) - a1) ((vP G lg lp 2 k) - a2) k86 k101)), (13, .long (lN ((100 * k86) + k101))), (21, .int (if ¬ nI k101 = lg k86 then 1 else 0)), (19, .long (vM G lg lp ((vP G lg lp 0 k) - a0) ((vP G lg lp 1 k) - a1) ((vP G lg lp 2 k) - a2) k86 k101)), (18, .int (nI k101)), (17, .int (nI k86)), (11, .long ((vP G lg lp 2 k) - a2)), (9, .long ((vP G lg lp 1 k) - a1)), (7, .long ((vP G lg lp 0 k) - a0)), (0, .ref (q 0)), (1, .long a0), (3, .long a1), (5, .long a2)]) hx hb dX5_findWrongGlass_185 hl (by decide) rfl (fun ls hl => ?_)
                      refine lv_iinc (v := nI (k101 + 1)) (lv' := [(18, .int (nI (k101 + 1))), (15, .long (vM G lg lp ((vP G lg lp 0 k) - a0) ((vP G lg lp 1 k) - a1) ((vP G lg lp 2 k) - a2) k86 k101)), (13, .long (lN ((100 * k86) + k101))), (21, .int (if ¬ nI k101 = lg k86 then 1 else 0)), (19, .long (vM G lg lp ((vP G lg lp 0 k) - a0) ((vP G lg lp 1 k) - a1) ((vP G lg lp 2 k) - a2) k86 k101)), (17, .int (nI k86)), (11, .long ((vP G lg lp 2 k) - a2)), (9, .long ((vP G lg lp 1 k) - a1)), (7, .long ((vP G lg lp 0 k) - a0)), (0, .ref (q 0)), (1, .long a0), (3, .long a1), (5, .long a2)]) hx hb dX5_findWrongGlass_187 hl (k := 4) rfl (by first | rfl | exact nI_add _ _) (by decide) rfl (fun ls hl => ?_)
                      refine lv_goto (tgt := 101) hx hb dX5_findWrongGlass_190 (by decide) ?_
                      exact ih101 (lN ((100 * k86) + k101), vM G lg lp ((vP G lg lp 0 k) - a0) ((vP G lg lp 1 k) - a1) ((vP G lg lp 2 k) - a2) k86 k101) (((pick_oth h152 (hM h4 h11 h19 k86 k101 (by omega) (by omega)) _ _).trans (if_pos (Or.inl h160))).symm) (trivial) ls (lv_sub hl [0, 5, 1, 2, 6, 7, 8, 9, 10, 11, 12] rfl)
                    · refine lv_lload hx hb dX5_findWrongGlass_164 (lv_at hl 1 rfl) ?_
                      refine lv_lload hx hb dX5_findWrongGlass_166 (lv_at hl 4 rfl) ?_
                      refine rl_ifge (tgt := 187) hx hb dX5_findWrongGlass_168 dX5_findWrongGlass_169 (by decide) (fun h168 => ?_) (fun h168 => ?_)
                      · refine lv_iinc (v := nI (k101 + 1)) (lv' := [(18, .int (nI (k101 + 1))), (21, .int (if ¬ nI k101 = lg k86 then 1 else 0)), (19, .long (vM G lg lp ((vP G lg lp 0 k) - a0) ((vP G lg lp 1 k) - a1) ((vP G lg lp 2 k) - a2) k86 k101)), (17, .int (nI k86)), (15, .long z101.2), (13, .long z101.1), (11, .long ((vP G lg lp 2 k) - a2)), (9, .long ((vP G lg lp 1 k) - a1)), (7, .long ((vP G lg lp 0 k) - a0)), (0, .ref (q 0)), (1, .long a0), (3, .long a1), (5, .long a2)]) hx hb dX5_findWrongGlass_187 hl (k := 2) rfl (by first | rfl | exact nI_add _ _) (by decide) rfl (fun ls hl => ?_)
                        refine lv_goto (tgt := 101) hx hb dX5_findWrongGlass_190 (by decide) ?_
                        exact ih101 z101 (((pick_oth h152 (hM h4 h11 h19 k86 k101 (by omega) (by omega)) _ _).trans (if_neg (fun w => w.elim h160 h168))).symm) (trivial) ls (lv_sub hl [0, 3, 4, 5, 6, 7, 8, 9, 10, 11, 12] rfl)
                      · refine lv_bipush (v := 100) hx hb dX5_findWrongGlass_172 (by decide) ?_
                        refine lv_iload hx hb dX5_findWrongGlass_174 (lv_at hl 3 rfl) ?_
                        refine lv_imul hx hb dX5_findWrongGlass_176 ?_
                        refine rw_topi (pk_mul 100 k86) ?_
                        refine lv_iload hx hb dX5_findWrongGlass_177 (lv_at hl 2 rfl) ?_
                        refine lv_iadd hx hb dX5_findWrongGlass_179 ?_
                        refine rw_topi (nI_add (100 * k86) k101) ?_
                        refine lv_i2l (v := lN ((100 * k86) + k101)) hx hb dX5_findWrongGlass_180 (nI_l (by omega)) ?_
                        refine lv_lstore (lv' := [(13, .long (lN ((100 * k86) + k101))), (21, .int (if ¬ nI k101 = lg k86 then 1 else 0)), (19, .long (vM G lg lp ((vP G lg lp 0 k) - a0) ((vP G lg lp 1 k) - a1) ((vP G lg lp 2 k) - a2) k86 k101)), (18, .int (nI k101)), (17, .int (nI k86)), (15, .long z101.2), (11, .long ((vP G lg lp 2 k) - a2)), (9, .long ((vP G lg lp 1 k) - a1)), (7, .long ((vP G lg lp 0 k) - a0)), (0, .ref (q 0)), (1, .long a0), (3, .long a1), (5, .long a2)]) hx hb dX5_findWrongGlass_181 hl (by decide) rfl (fun ls hl => ?_)
                        refine lv_lload hx hb dX5_findWrongGlass_183 (lv_at hl 2 rfl) ?_
                        refine lv_lstore (lv' := [(15, .long (vM G lg lp ((vP G lg lp 0 k) - a0) ((vP G lg lp 1 k) - a1) ((vP G lg lp 2 k) - a2) k86 k101)), (13, .long (lN ((100 * k86) + k101))), (21, .int (if ¬ nI k101 = lg k86 then 1 else 0)), (19, .long (vM G lg lp ((vP G lg lp 0 k) - a0) ((vP G lg lp 1 k) - a1) ((vP G lg lp 2 k) - a2) k86 k101)), (18, .int (nI k101)), (17, .int (nI k86)), (11, .long ((vP G lg lp 2 k) - a2)), (9, .long ((vP G lg lp 1 k) - a1)), (7, .long ((vP G lg lp 0 k) - a0)), (0, .ref (q 0)), (1, .long a0), (3, .long a1), (5, .long a2)]) hx hb dX5_findWrongGlass_185 hl (by decide) rfl (fun ls hl => ?_)
                        refine lv_iinc (v := nI (k101 + 1)) (lv' := [(18, .int (nI (k101 + 1))), (15, .long (vM G lg lp ((vP G lg lp 0 k) - a0) ((vP G lg lp 1 k) - a1) ((vP G lg lp 2 k) - a2) k86 k101)), (13, .long (lN ((100 * k86) + k101))), (21, .int (if ¬ nI k101 = lg k86 then 1 else 0)), (19, .long (vM G lg lp ((vP G lg lp 0 k) - a0) ((vP G lg lp 1 k) - a1) ((vP G lg lp 2 k) - a2) k86 k101)), (17, .int (nI k86)), (11, .long ((vP G lg lp 2 k) - a2)), (9, .long ((vP G lg lp 1 k) - a1)), (7, .long ((vP G lg lp 0 k) - a0)), (0, .ref (q 0)), (1, .long a0), (3, .long a1), (5, .long a2)]) hx hb dX5_findWrongGlass_187 hl (k := 4) rfl (by first | rfl | exact nI_add _ _) (by decide) rfl (fun ls hl => ?_)
                        refine lv_goto (tgt := 101) hx hb dX5_findWrongGlass_190 (by decide) ?_
                        exact ih101 (lN ((100 * k86) + k101), vM G lg lp ((vP G lg lp 0 k) - a0) ((vP G lg lp 1 k) - a1) ((vP G lg lp 2 k) - a2) k86 k101) (((pick_oth h152 (hM h4 h11 h19 k86 k101 (by omega) (by omega)) _ _).trans (if_pos (Or.inr h168))).symm) (trivial) ls (lv_sub hl [0, 5, 1, 2, 6, 7, 8, 9, 10, 11, 12] rfl)
                · refine lv_iload hx hb dX5_findWrongGlass_129 (lv_at hl 1 rfl) ?_
                  refine lv_aload_n hx hb dX5_findWrongGlass_131 rfl (lv_at hl 8 rfl) ?_
                  refine va_get (D := (dC, dI)) (ci := 5) (v := .ref (q 14)) (C := RX5) (T := TX5) (N := 5) hx hb hts (by decide +kernel) hown hK hP 0 rfl rfl 3 (by decide) (hts (.fieldLink RX5 33 "AchromatDesk" "system" "LAchromatDesk$LensSystem;") (by decide +kernel)) (fun _ h9 => h9) rfl dX5_findWrongGlass_132 ?_
                  refine lv_iload hx hb dX5_findWrongGlass_135 (lv_at hl 2 rfl) ?_
                  refine roVi (As := [.int (nI k86)]) (rest := [.int (nI k101)]) (c_X3_glassOf l dC dI cI cJ q lg lp k hk k86 (by omega)) ⟨hx, hb, hml, hown, hts⟩ (cwV 1 hts gX5_findWrongGlass_X3_glassOf rfl rfl rfl (by decide +kernel) ⟨Nat.le_of_ble_eq_true rfl, Nat.le_of_ble_eq_true rfl⟩) (hP.sub [6, 7, 8] rfl) hK hN (ci := 3) rfl rfl rfl hl.1 rfl (Nat.le_of_ble_eq_true rfl) dX5_findWrongGlass_137 ⟨Nat.zero_le _, Nat.zero_le _⟩ (fun r hr0 => ?_)
                  subst hr0
                  refine lv_icmp_eq (tgt := 147) hx hb dX5_findWrongGlass_140 (by decide) (fun h140 => ?_) (fun h140 => ?_)
                  · refine lv_iconst (v := 0) hx hb dX5_findWrongGlass_147 (by decide) ?_
                    refine rw_topi (show (0 : Int32) = (if ¬ nI k101 = lg k86 then 1 else 0 : Int32) from by first | rw [if_pos h140] | rw [if_neg (fun w => w h140)]) ?_
                    exact hj148 ls (lv_sub hl [0, 1, 2, 3, 4, 5, 6, 7, 8, 9, 10, 11] rfl)
                  · refine lv_iconst (v := 1) hx hb dX5_findWrongGlass_143 (by decide) ?_
                    refine lv_goto (tgt := 148) hx hb dX5_findWrongGlass_144 (by decide) ?_
                    refine rw_topi (show (1 : Int32) = (if ¬ nI k101 = lg k86 then 1 else 0 : Int32) from by first | rw [if_pos h140] | rw [if_neg (fun w => w h140)]) ?_
                    exact hj148 ls (lv_sub hl [0, 1, 2, 3, 4, 5, 6, 7, 8, 9, 10, 11] rfl)
            · refine lv_iload hx hb dX5_findWrongGlass_101 (lv_at hl 0 rfl) ?_
              refine lv_aload_n hx hb dX5_findWrongGlass_103 rfl (lv_at hl 7 rfl) ?_
              refine va_get (D := (dC, dI)) (ci := 5) (v := .ref (q 3)) (C := RX5) (T := TX5) (N := 5) hx hb hts (by decide +kernel) hown hK hP 0 rfl rfl 1 (by decide) (hts (.fieldLink RX5 19 "AchromatDesk" "glasses" "LAchromatDesk$Catalogue;") (by decide +kernel)) (fun _ h9 => h9) rfl dX5_findWrongGlass_104 ?_
              refine va_getN (D := (dC, dI)) (ci := 0) (v := .int (nI n)) (C := RX0) (T := TX0) (N := 5) hx hb hts (by decide +kernel) hown hK hP 1 rfl rfl 4 (by decide) (va_Nw.use (w := .fieldLinkNest "AchromatDesk" 77 "AchromatDesk$Catalogue" "count" "I" "AchromatDesk") rfl (hN.at 2 rfl)) (fun _ h9 => h9) rfl dX5_findWrongGlass_107 ?_
              refine rn_ge (tgt := 193) hx hb n n rfl rfl (by omega) (by omega) dX5_findWrongGlass_110 (by decide) (fun h110 => ?_) (fun h110 => ?_)
              · refine lv_iinc (v := nI (k86 + 1)) (lv' := [(17, .int (nI (k86 + 1))), (18, .int (nI n)), (15, .long z101.2), (13, .long z101.1), (11, .long ((vP G lg lp 2 k) - a2)), (9, .long ((vP G lg lp 1 k) - a1)), (7, .long ((vP G lg lp 0 k) - a0)), (0, .ref (q 0)), (1, .long a0), (3, .long a1), (5, .long a2)]) hx hb dX5_findWrongGlass_193 hl (k := 1) rfl (by first | rfl | exact nI_add _ _) (by decide) rfl (fun ls hl => ?_)
                refine lv_goto (tgt := 86) hx hb dX5_findWrongGlass_196 (by decide) ?_
                exact ih86 z101 (hz101) (trivial) ls (lv_sub hl [0, 2, 3, 4, 5, 6, 7, 8, 9, 10] rfl)
              · exfalso; omega
        · refine lv_iload hx hb dX5_findWrongGlass_86 (lv_at hl 0 rfl) ?_
          refine lv_aload_n hx hb dX5_findWrongGlass_88 rfl (lv_at hl 6 rfl) ?_
          refine va_get (D := (dC, dI)) (ci := 5) (v := .ref (q 14)) (C := RX5) (T := TX5) (N := 5) hx hb hts (by decide +kernel) hown hK hP 0 rfl rfl 3 (by decide) (hts (.fieldLink RX5 33 "AchromatDesk" "system" "LAchromatDesk$LensSystem;") (by decide +kernel)) (fun _ h9 => h9) rfl dX5_findWrongGlass_89 ?_
          refine va_getN (D := (dC, dI)) (ci := 3) (v := .int (nI k)) (C := RX3) (T := TX3) (N := 3) hx hb hts (by decide +kernel) hown hK hP 6 rfl rfl 2 (by decide) (va_Nw.use (w := .fieldLinkNest "AchromatDesk" 178 "AchromatDesk$LensSystem" "count" "I" "AchromatDesk") rfl (hN.at 4 rfl)) (fun _ h9 => h9) rfl dX5_findWrongGlass_92 ?_
          refine rn_ge (tgt := 199) hx hb k k rfl rfl (by omega) (by omega) dX5_findWrongGlass_95 (by decide) (fun h95 => ?_) (fun h95 => ?_)
          · refine lv_lload hx hb dX5_findWrongGlass_199 (lv_at hl 2 rfl) ?_
            exact W.lret hx hb hr (fun t ht hW => ⟨_, rfl, by rw [sWr, if_pos ⟨h4, h11, h19⟩, hz86]; rfl, ht⟩) (fun _ h => absurd h List.not_mem_nil) dX5_findWrongGlass_201
          · exfalso; omega
      · refine lv_ldc2 (v := (-9000000000000000001)) hx hb hown (hts (.constantLong RX5 44 (-9000000000000000001)) (by decide +kernel)) dX5_findWrongGlass_22 ?_
        exact W.lret hx hb hr (fun t ht hW => ⟨_, rfl, by rw [sWr, if_neg (fun w => h19 w.2.2)], ht⟩) (fun _ h => absurd h List.not_mem_nil) dX5_findWrongGlass_25

set_option maxHeartbeats 4000000 in
set_option maxRecDepth 100000 in
theorem c_X5_powerBetween (l : Launch) (dC : Nat → ClassId) (dI : Nat → Nat → Nat) (cI cJ : ClassId) (q : Nat → Nat) (rd : Nat → Int32) (np : Nat) (hp : np ≤ 16) (a : Int64) (f g : Nat) (hf : f < 2 * np) (hg : g < 2 * np) : Met l yX5_powerBetween wsX5_powerBetween ({ frames := 2, cells := 0, slots := 0, locals := 48 }) (va_Pc [.ref (q 0), .long a, .int (nI f), .int (nI g)] (RO (dC, dI) (tyK cI cJ) ([(q 0, .inr (5, [.ref (q 1), .ref (q 3), .ref (q 8), .ref (q 14), .ref (q 17)])), (q 17, .inr (4, [.ref (q 18), .int (nI np)])), (q 18, .inl (cI, 16, .inl rd))]))) (vp_Sl (fun r => r = pB rd a f g)) 0 0 (fun _ => False) := by
  refine Met.ofW (cc := cX5_powerBetween) (maxL := 9) (ret := (some .long)) (by decide) rfl ?_
  intro p e s m args below meth c s₁ B hml hv
  obtain ⟨rfl, hP, hK, hN⟩ := hv
  have hx := B.exec
  have hb := B.bytes
  have hr := B.returns
  have hts := atoms_spec (ws := wsX5_powerBetween) B.pre
  have hown : s.vm.findClass RX5 = some m.cls := findClass_of_methodNamed B.named
  have hlocks := B.notSynchronized
  have hP : va_P (dC, dI) vwCl [(q 0, .inr (5, [.ref (q 1), .ref (q 3), .ref (q 8), .ref (q 14), .ref (q 17)])), (q 17, .inr (4, [.ref (q 18), .int (nI np)])), (q 18, .inl (cI, 16, .inl rd))] s.heap := hP
  have hl := lv_entry ([.ref (q 0), .long a, .int (nI f), .int (nI g)]) (n := 9) (Nat.le_of_ble_eq_true rfl)
  rw [lg_entry_eq]
  generalize (lg_sl ([.ref (q 0), .long a, .int (nI f), .int (nI g)]) ++ List.replicate (9 - (lg_sl ([.ref (q 0), .long a, .int (nI f), .int (nI g)])).length) Slot.unset).toArray = ls at hl ⊢
  have hl : lv_has ls 9 [(0, .ref (q 0)), (1, .long a), (3, .int (nI f)), (4, .int (nI g))] := hl
  refine lv_aload_n hx hb dX5_powerBetween_0 rfl (lv_at hl 0 rfl) ?_
  refine va_get (D := (dC, dI)) (ci := 5) (v := .ref (q 17)) (C := RX5) (T := TX5) (N := 5) hx hb hts (by decide +kernel) hown hK hP 0 rfl rfl 4 (by decide) (hts (.fieldLink RX5 40 "AchromatDesk" "plates" "LAchromatDesk$PlateSet;") (by decide +kernel)) (fun _ h9 => h9) rfl dX5_powerBetween_1 ?_
  refine lv_iload_n hx hb dX5_powerBetween_4 rfl (lv_at hl 2 rfl) ?_
  refine roVl (As := [.int (nI f)]) (rest := []) (c_X4_signedRadius l dC dI cI cJ q rd np hp f (by omega)) ⟨hx, hb, hml, hown, hts⟩ (cwV 1 hts gX5_powerBetween_X4_signedRadius rfl rfl rfl (by decide +kernel) ⟨Nat.le_of_ble_eq_true rfl, Nat.le_of_ble_eq_true rfl⟩) (hP.sub [1, 2] rfl) hK hN (ci := 4) rfl rfl rfl hl.1 rfl (Nat.le_of_ble_eq_true rfl) dX5_powerBetween_5 ⟨Nat.zero_le _, Nat.zero_le _⟩ (fun r hr0 => ?_)
  subst hr0
  refine lv_lstore (lv' := [(5, .long (sR rd f)), (0, .ref (q 0)), (1, .long a), (3, .int (nI f)), (4, .int (nI g))]) hx hb dX5_powerBetween_8 hl (by decide) rfl (fun ls hl => ?_)
  refine lv_aload_n hx hb dX5_powerBetween_10 rfl (lv_at hl 1 rfl) ?_
  refine va_get (D := (dC, dI)) (ci := 5) (v := .ref (q 17)) (C := RX5) (T := TX5) (N := 5) hx hb hts (by decide +kernel) hown hK hP 0 rfl rfl 4 (by decide) (hts (.fieldLink RX5 40 "AchromatDesk" "plates" "LAchromatDesk$PlateSet;") (by decide +kernel)) (fun _ h9 => h9) rfl dX5_powerBetween_11 ?_
  refine lv_iload hx hb dX5_powerBetween_14 (lv_at hl 4 rfl) ?_
  refine roVl (As := [.int (nI g)]) (rest := []) (c_X4_signedRadius l dC dI cI cJ q rd np hp g (by omega)) ⟨hx, hb, hml, hown, hts⟩ (cwV 1 hts gX5_powerBetween_X4_signedRadius rfl rfl rfl (by decide +kernel) ⟨Nat.le_of_ble_eq_true rfl, Nat.le_of_ble_eq_true rfl⟩) (hP.sub [1, 2] rfl) hK hN (ci := 4) rfl rfl rfl hl.1 rfl (Nat.le_of_ble_eq_true rfl) dX5_powerBetween_16 ⟨Nat.zero_le _, Nat.zero_le _⟩ (fun r hr0 => ?_)
  subst hr0
  refine lv_lstore (lv' := [(7, .long (sR rd g)), (5, .long (sR rd f)), (0, .ref (q 0)), (1, .long a), (3, .int (nI f)), (4, .int (nI g))]) hx hb dX5_powerBetween_19 hl (by decide) rfl (fun ls hl => ?_)
  refine lv_lload_n hx hb dX5_powerBetween_21 rfl (lv_at hl 3 rfl) ?_
  refine lv_ldc2 (v := 10000000) hx hb hown (hts (.constantLong RX5 276 (10000000)) (by decide +kernel)) dX5_powerBetween_22 ?_
  refine lv_lmul hx hb dX5_powerBetween_25 ?_
  refine lv_lload hx hb dX5_powerBetween_26 (lv_at hl 0 rfl) ?_
  refine lv_lload hx hb dX5_powerBetween_28 (lv_at hl 1 rfl) ?_
  refine lv_lsub hx hb dX5_powerBetween_30 ?_
  refine lv_lmul hx hb dX5_powerBetween_31 ?_
  refine lv_lload hx hb dX5_powerBetween_32 (lv_at hl 1 rfl) ?_
  refine lv_lload hx hb dX5_powerBetween_34 (lv_at hl 0 rfl) ?_
  refine lv_lmul hx hb dX5_powerBetween_36 ?_
  refine stSl (As := [.long ((a * 10000000) * ((sR rd g) - (sR rd f))), .long ((sR rd f) * (sR rd g))]) (rest := []) (c_X5_floorQuotient l ((a * 10000000) * ((sR rd g) - (sR rd f))) ((sR rd f) * (sR rd g))) ⟨hx, hb, hml, hown, hts⟩ (va_cwS 2 hts gX5_powerBetween_X5_floorQuotient rfl rfl rfl (by decide +kernel) ⟨Nat.le_of_ble_eq_true rfl, Nat.le_of_ble_eq_true rfl⟩) rfl hl.1 rfl (Nat.le_of_ble_eq_true rfl) dX5_powerBetween_37 ⟨Nat.zero_le _, Nat.zero_le _⟩ (fun r hr0 => ?_)
  subst hr0
  exact W.lret hx hb hr (fun t ht hW => ⟨_, rfl, rfl, ht⟩) (fun _ h => absurd h List.not_mem_nil) dX5_powerBetween_40

set_option maxHeartbeats 4000000 in
set_option maxRecDepth 100000 in
theorem c_X5_nearestPlate (l : Launch) (dC : Nat → ClassId) (dI : Nat → Nat → Nat) (cI cJ : ClassId) (q : Nat → Nat) (rd : Nat → Int32) (np : Nat) (hp : np ≤ 16) (r : Int32) : Met l yX5_nearestPlate wsX5_nearestPlate ({ frames := 2, cells := 0, slots := 0, locals := 49 }) (va_Pc [.ref (q 0), .int r] (RO (dC, dI) (tyK cI cJ) ([(q 0, .inr (5, [.ref (q 1), .ref (q 3), .ref (q 8), .ref (q 14), .ref (q 17)])), (q 17, .inr (4, [.ref (q 18), .int (nI np)])), (q 18, .inl (cI, 16, .inl rd))]))) (vp_Sl (fun r1 => r1 = sNear rd np r)) 0 0 (fun _ => False) := by
  refine Met.ofW (cc := cX5_nearestPlate) (maxL := 3) (ret := (some .long)) (by decide) rfl ?_
  intro p e s m args below meth c s₁ B hml hv
  obtain ⟨rfl, hP, hK, hN⟩ := hv
  have hx := B.exec
  have hb := B.bytes
  have hr := B.returns
  have hts := atoms_spec (ws := wsX5_nearestPlate) B.pre
  have hown : s.vm.findClass RX5 = some m.cls := findClass_of_methodNamed B.named
  have hlocks := B.notSynchronized
  have hP : va_P (dC, dI) vwCl [(q 0, .inr (5, [.ref (q 1), .ref (q 3), .ref (q 8), .ref (q 14), .ref (q 17)])), (q 17, .inr (4, [.ref (q 18), .int (nI np)])), (q 18, .inl (cI, 16, .inl rd))] s.heap := hP
  have hl := lv_entry ([.ref (q 0), .int r]) (n := 3) (Nat.le_of_ble_eq_true rfl)
  rw [lg_entry_eq]
  generalize (lg_sl ([.ref (q 0), .int r]) ++ List.replicate (3 - (lg_sl ([.ref (q 0), .int r])).length) Slot.unset).toArray = ls at hl ⊢
  have hl : lv_has ls 3 [(0, .ref (q 0)), (1, .int r)] := hl
  refine lv_aload_n hx hb dX5_nearestPlate_0 rfl (lv_at hl 0 rfl) ?_
  refine va_get (D := (dC, dI)) (ci := 5) (v := .ref (q 17)) (C := RX5) (T := TX5) (N := 5) hx hb hts (by decide +kernel) hown hK hP 0 rfl rfl 4 (by decide) (hts (.fieldLink RX5 40 "AchromatDesk" "plates" "LAchromatDesk$PlateSet;") (by decide +kernel)) (fun _ h9 => h9) rfl dX5_nearestPlate_1 ?_
  refine lv_iload_n hx hb dX5_nearestPlate_4 rfl (lv_at hl 1 rfl) ?_
  refine roVi (As := [.int r]) (rest := []) (c_X4_nearestTo l dC dI cI cJ q rd np hp r) ⟨hx, hb, hml, hown, hts⟩ (cwV 1 hts gX5_nearestPlate_X4_nearestTo rfl rfl rfl (by decide +kernel) ⟨Nat.le_of_ble_eq_true rfl, Nat.le_of_ble_eq_true rfl⟩) (hP.sub [1, 2] rfl) hK hN (ci := 4) rfl rfl rfl hl.1 rfl (Nat.le_of_ble_eq_true rfl) dX5_nearestPlate_5 ⟨Nat.zero_le _, Nat.zero_le _⟩ (fun r hr0 => ?_)
  subst hr0
  refine lv_istore_n (lv' := [(2, .int ((near rd r np).1)), (0, .ref (q 0)), (1, .int r)]) hx hb dX5_nearestPlate_8 rfl hl (by decide) rfl (fun ls hl => ?_)
  refine lv_iload_n hx hb dX5_nearestPlate_9 rfl (lv_at hl 0 rfl) ?_
  refine lv_if_ge (tgt := 19) hx hb dX5_nearestPlate_10 (by decide) (fun h10 => ?_) (fun h10 => ?_)
  · refine lv_iload_n hx hb dX5_nearestPlate_19 rfl (lv_at hl 0 rfl) ?_
    refine lv_i2l (v := ((near rd r np).1).toInt64) hx hb dX5_nearestPlate_20 rfl ?_
    exact W.lret hx hb hr (fun t ht hW => ⟨_, rfl, by first | rw [sNear, if_neg (Int32.not_lt.mpr h10)] | rw [sNear, if_pos (Int32.not_le.mp h10)], ht⟩) (fun _ h => absurd h List.not_mem_nil) dX5_nearestPlate_21
  · refine lv_ldc2 (v := (-9000000000000000008)) hx hb hown (hts (.constantLong RX5 139 (-9000000000000000008)) (by decide +kernel)) dX5_nearestPlate_13 ?_
    refine lv_goto (tgt := 21) hx hb dX5_nearestPlate_16 (by decide) ?_
    exact W.lret hx hb hr (fun t ht hW => ⟨_, rfl, by first | rw [sNear, if_neg (Int32.not_lt.mpr h10)] | rw [sNear, if_pos (Int32.not_le.mp h10)], ht⟩) (fun _ h => absurd h List.not_mem_nil) dX5_nearestPlate_21

set_option maxHeartbeats 4000000 in
set_option maxRecDepth 100000 in
theorem c_X5_bestSurfaces (l : Launch) (dC : Nat → ClassId) (dI : Nat → Nat → Nat) (cI cJ : ClassId) (q : Nat → Nat) (G : GL) (n : Nat) (hn : n ≤ 20) (lg lp : Nat → Int32) (k : Nat) (hk : k ≤ 8) (rd : Nat → Int32) (np : Nat) (hp : np ≤ 16) (hL : lOK lg k n) (x : Int32) : Met l yX5_bestSurfaces wsX5_bestSurfaces ({ frames := 3, cells := 0, slots := 0, locals := 76 }) (va_Pc [.ref (q 0), .int x] (RO (dC, dI) (tyK cI cJ) ([(q 0, .inr (5, [.ref (q 1), .ref (q 3), .ref (q 8), .ref (q 14), .ref (q 17)])), (q 3, .inr (0, [.ref (q 4), .ref (q 5), .ref (q 6), .ref (q 7), .int (nI n)])), (q 4, .inl (cJ, 20, .inr (.inl (gK G)))), (q 5, .inl (cI, 20, .inl (gF G))), (q 6, .inl (cI, 20, .inl (gD G))), (q 7, .inl (cI, 20, .inl (gC G))), (q 14, .inr (3, [.ref (q 15), .ref (q 16), .int (nI k)])), (q 15, .inl (cI, 8, .inl lg)), (q 16, .inl (cI, 8, .inl lp)), (q 17, .inr (4, [.ref (q 18), .int (nI np)])), (q 18, .inl (cI, 16, .inl rd))]))) (vp_Sl (fun r => r = sBS G lg lp k rd np x)) 0 0 (fun _ => False) := by
  refine Met.ofW (cc := cX5_bestSurfaces) (maxL := 14) (ret := (some .long)) (by decide) rfl ?_
  intro p e s m args below meth c s₁ B hml hv
  obtain ⟨rfl, hP, hK, hN⟩ := hv
  have hx := B.exec
  have hb := B.bytes
  have hr := B.returns
  have hts := atoms_spec (ws := wsX5_bestSurfaces) B.pre
  have hown : s.vm.findClass RX5 = some m.cls := findClass_of_methodNamed B.named
  have hlocks := B.notSynchronized
  have hP : va_P (dC, dI) vwCl [(q 0, .inr (5, [.ref (q 1), .ref (q 3), .ref (q 8), .ref (q 14), .ref (q 17)])), (q 3, .inr (0, [.ref (q 4), .ref (q 5), .ref (q 6), .ref (q 7), .int (nI n)])), (q 4, .inl (cJ, 20, .inr (.inl (gK G)))), (q 5, .inl (cI, 20, .inl (gF G))), (q 6, .inl (cI, 20, .inl (gD G))), (q 7, .inl (cI, 20, .inl (gC G))), (q 14, .inr (3, [.ref (q 15), .ref (q 16), .int (nI k)])), (q 15, .inl (cI, 8, .inl lg)), (q 16, .inl (cI, 8, .inl lp)), (q 17, .inr (4, [.ref (q 18), .int (nI np)])), (q 18, .inl (cI, 16, .inl rd))] s.heap := hP
  have hl := lv_entry ([.ref (q 0), .int x]) (n := 14) (Nat.le_of_ble_eq_true rfl)
  rw [lg_entry_eq]
  generalize (lg_sl ([.ref (q 0), .int x]) ++ List.replicate (14 - (lg_sl ([.ref (q 0), .int x])).length) Slot.unset).toArray = ls at hl ⊢
  have hl : lv_has ls 14 [(0, .ref (q 0)), (1, .int x)] := hl
  refine lv_aload_n hx hb dX5_bestSurfaces_0 rfl (lv_at hl 0 rfl) ?_
  refine va_get (D := (dC, dI)) (ci := 5) (v := .ref (q 14)) (C := RX5) (T := TX5) (N := 5) hx hb hts (by decide +kernel) hown hK hP 0 rfl rfl 3 (by decide) (hts (.fieldLink RX5 33 "AchromatDesk" "system" "LAchromatDesk$LensSystem;") (by decide +kernel)) (fun _ h9 => h9) rfl dX5_bestSurfaces_1 ?_
  refine lv_iload_n hx hb dX5_bestSurfaces_4 rfl (lv_at hl 1 rfl) ?_
  refine roVi (As := [.int x]) (rest := []) (c_X3_has l dC dI cI cJ q lg lp k hk x) ⟨hx, hb, hml, hown, hts⟩ (cwV 1 hts gX5_bestSurfaces_X3_has rfl rfl rfl (by decide +kernel) ⟨Nat.le_of_ble_eq_true rfl, Nat.le_of_ble_eq_true rfl⟩) (hP.sub [6, 7, 8] rfl) hK hN (ci := 3) rfl rfl rfl hl.1 rfl (Nat.le_of_ble_eq_true rfl) dX5_bestSurfaces_5 ⟨Nat.zero_le _, Nat.zero_le _⟩ (fun r hr0 => ?_)
  subst hr0
  refine rb_ne (tgt := 15) hx hb dX5_bestSurfaces_8 (by decide) (fun h8 => ?_) (fun h8 => ?_)
  · obtain ⟨g, hg, eg⟩ := hasP_ex (by omega) h8
    subst eg
    refine lv_aload_n hx hb dX5_bestSurfaces_15 rfl (lv_at hl 0 rfl) ?_
    refine va_get (D := (dC, dI)) (ci := 5) (v := .ref (q 3)) (C := RX5) (T := TX5) (N := 5) hx hb hts (by decide +kernel) hown hK hP 0 rfl rfl 1 (by decide) (hts (.fieldLink RX5 19 "AchromatDesk" "glasses" "LAchromatDesk$Catalogue;") (by decide +kernel)) (fun _ h9 => h9) rfl dX5_bestSurfaces_16 ?_
    refine lv_aload_n hx hb dX5_bestSurfaces_19 rfl (lv_at hl 0 rfl) ?_
    refine va_get (D := (dC, dI)) (ci := 5) (v := .ref (q 14)) (C := RX5) (T := TX5) (N := 5) hx hb hts (by decide +kernel) hown hK hP 0 rfl rfl 3 (by decide) (hts (.fieldLink RX5 33 "AchromatDesk" "system" "LAchromatDesk$LensSystem;") (by decide +kernel)) (fun _ h9 => h9) rfl dX5_bestSurfaces_20 ?_
    refine lv_iload_n hx hb dX5_bestSurfaces_23 rfl (lv_at hl 1 rfl) ?_
    refine roVi (As := [.int (nI g)]) (rest := [.ref (q 3)]) (c_X3_glassOf l dC dI cI cJ q lg lp k hk g (by omega)) ⟨hx, hb, hml, hown, hts⟩ (cwV 1 hts gX5_bestSurfaces_X3_glassOf rfl rfl rfl (by decide +kernel) ⟨Nat.le_of_ble_eq_true rfl, Nat.le_of_ble_eq_true rfl⟩) (hP.sub [6, 7, 8] rfl) hK hN (ci := 3) rfl rfl rfl hl.1 rfl (Nat.le_of_ble_eq_true rfl) dX5_bestSurfaces_24 ⟨Nat.zero_le _, Nat.zero_le _⟩ (fun r hr0 => ?_)
    subst hr0
    have hq := (hL g (by omega)).2
    refine rw_topi (show (lg g : Int32) = (nI (ix (lg g)) : Int32) from (hL g (by omega)).1) ?_
    refine roVl (As := [.int (nI (ix (lg g)))]) (rest := []) (c_X0_valueA l dC dI cI cJ q G n hn (ix (lg g)) (by omega)) ⟨hx, hb, hml, hown, hts⟩ (cwV 1 hts gX5_bestSurfaces_X0_valueA rfl rfl rfl (by decide +kernel) ⟨Nat.le_of_ble_eq_true rfl, Nat.le_of_ble_eq_true rfl⟩) (hP.sub [1, 2, 3, 4, 5] rfl) hK hN (ci := 0) rfl rfl rfl hl.1 rfl (Nat.le_of_ble_eq_true rfl) dX5_bestSurfaces_27 ⟨Nat.zero_le _, Nat.zero_le _⟩ (fun r hr0 => ?_)
    subst hr0
    refine lv_lstore_n (lv' := [(2, .long (vA G (ix (lg g)))), (0, .ref (q 0)), (1, .int (nI g))]) hx hb dX5_bestSurfaces_30 rfl hl (by decide) rfl (fun ls hl => ?_)
    refine lv_aload_n hx hb dX5_bestSurfaces_31 rfl (lv_at hl 1 rfl) ?_
    refine va_get (D := (dC, dI)) (ci := 5) (v := .ref (q 14)) (C := RX5) (T := TX5) (N := 5) hx hb hts (by decide +kernel) hown hK hP 0 rfl rfl 3 (by decide) (hts (.fieldLink RX5 33 "AchromatDesk" "system" "LAchromatDesk$LensSystem;") (by decide +kernel)) (fun _ h9 => h9) rfl dX5_bestSurfaces_32 ?_
    refine lv_iload_n hx hb dX5_bestSurfaces_35 rfl (lv_at hl 2 rfl) ?_
    refine roVi (As := [.int (nI g)]) (rest := []) (c_X3_powerOf l dC dI cI cJ q lg lp k hk g (by omega)) ⟨hx, hb, hml, hown, hts⟩ (cwV 1 hts gX5_bestSurfaces_X3_powerOf rfl rfl rfl (by decide +kernel) ⟨Nat.le_of_ble_eq_true rfl, Nat.le_of_ble_eq_true rfl⟩) (hP.sub [6, 7, 8] rfl) hK hN (ci := 3) rfl rfl rfl hl.1 rfl (Nat.le_of_ble_eq_true rfl) dX5_bestSurfaces_36 ⟨Nat.zero_le _, Nat.zero_le _⟩ (fun r hr0 => ?_)
    subst hr0
    refine lv_i2l (v := (lp g).toInt64) hx hb dX5_bestSurfaces_39 rfl ?_
    refine lv_lstore (lv' := [(4, .long ((lp g).toInt64)), (2, .long (vA G (ix (lg g)))), (0, .ref (q 0)), (1, .int (nI g))]) hx hb dX5_bestSurfaces_40 hl (by decide) rfl (fun ls hl => ?_)
    refine lv_ldc2 (v := (-9000000000000000008)) hx hb hown (hts (.constantLong RX5 139 (-9000000000000000008)) (by decide +kernel)) dX5_bestSurfaces_42 ?_
    refine lv_lstore (lv' := [(6, .long (-9000000000000000008)), (4, .long ((lp g).toInt64)), (2, .long (vA G (ix (lg g)))), (0, .ref (q 0)), (1, .int (nI g))]) hx hb dX5_bestSurfaces_45 hl (by decide) rfl (fun ls hl => ?_)
    refine lv_lconst (v := 0) hx hb dX5_bestSurfaces_47 (by decide) ?_
    refine lv_lstore (lv' := [(8, .long 0), (6, .long (-9000000000000000008)), (4, .long ((lp g).toInt64)), (2, .long (vA G (ix (lg g)))), (0, .ref (q 0)), (1, .int (nI g))]) hx hb dX5_bestSurfaces_48 hl (by decide) rfl (fun ls hl => ?_)
    refine lv_iconst (v := 0) hx hb dX5_bestSurfaces_50 (by decide) ?_
    refine lv_istore (lv' := [(10, .int 0), (8, .long 0), (6, .long (-9000000000000000008)), (4, .long ((lp g).toInt64)), (2, .long (vA G (ix (lg g)))), (0, .ref (q 0)), (1, .int (nI g))]) hx hb dX5_bestSurfaces_51 hl (by decide) rfl (fun ls hl => ?_)
    refine rloopZ (nL := 14) 0 (2 * np) (fun f b => bSrf2 rd np (vA G (ix (lg g))) (lp g).toInt64 f b) (cNO, 0) (fun k53 z53 => [(10, .int (nI k53)), (8, .long z53.2), (6, .long z53.1), (4, .long ((lp g).toInt64)), (2, .long (vA G (ix (lg g)))), (0, .ref (q 0)), (1, .int (nI g))]) (fun _ _ => True) (by omega) (trivial) (lv_sub hl [0, 1, 2, 3, 4, 5, 6] rfl) (fun k53 z53 hlo53 hk53 hz53 hI53 ls hl ih53 => ?_) (fun z53 hz53 hI53 ls hl => ?_)
    · refine lv_iload hx hb dX5_bestSurfaces_53 (lv_at hl 0 rfl) ?_
      refine lv_iconst (v := 2) hx hb dX5_bestSurfaces_55 (by decide) ?_
      refine lv_aload_n hx hb dX5_bestSurfaces_56 rfl (lv_at hl 5 rfl) ?_
      refine va_get (D := (dC, dI)) (ci := 5) (v := .ref (q 17)) (C := RX5) (T := TX5) (N := 5) hx hb hts (by decide +kernel) hown hK hP 0 rfl rfl 4 (by decide) (hts (.fieldLink RX5 40 "AchromatDesk" "plates" "LAchromatDesk$PlateSet;") (by decide +kernel)) (fun _ h9 => h9) rfl dX5_bestSurfaces_57 ?_
      refine va_getN (D := (dC, dI)) (ci := 4) (v := .int (nI np)) (C := RX4) (T := TX4) (N := 2) hx hb hts (by decide +kernel) hown hK hP 9 rfl rfl 1 (by decide) (va_Nw.use (w := .fieldLinkNest "AchromatDesk" 204 "AchromatDesk$PlateSet" "count" "I" "AchromatDesk") rfl (hN.at 5 rfl)) (fun _ h9 => h9) rfl dX5_bestSurfaces_60 ?_
      refine lv_imul hx hb dX5_bestSurfaces_63 ?_
      refine rw_topi (pk_mul 2 np) ?_
      refine rn_ge (tgt := 185) hx hb k53 (2 * np) rfl rfl (by omega) (by omega) dX5_bestSurfaces_64 (by decide) (fun h64 => ?_) (fun h64 => ?_)
      · exfalso; omega
      · refine lv_iconst (v := 0) hx hb dX5_bestSurfaces_67 (by decide) ?_
        refine lv_istore (lv' := [(11, .int 0), (10, .int (nI k53)), (8, .long z53.2), (6, .long z53.1), (4, .long ((lp g).toInt64)), (2, .long (vA G (ix (lg g)))), (0, .ref (q 0)), (1, .int (nI g))]) hx hb dX5_bestSurfaces_68 hl (by decide) rfl (fun ls hl => ?_)
        refine rloopZ (nL := 14) 0 (2 * np) (fun g1 b => pick b (lN (1000 * (k53 / 2) + 10 * (g1 / 2) + 2 * (k53 % 2) + g1 % 2)) (if k53 = g1 then -1 else labs (pB rd (vA G (ix (lg g))) k53 g1 - (lp g).toInt64))) z53 (fun k70 z70 => [(11, .int (nI k70)), (10, .int (nI k53)), (8, .long z70.2), (6, .long z70.1), (4, .long ((lp g).toInt64)), (2, .long (vA G (ix (lg g)))), (0, .ref (q 0)), (1, .int (nI g))]) (fun _ _ => True) (by omega) (trivial) (lv_sub hl [0, 1, 2, 3, 4, 5, 6, 7] rfl) (fun k70 z70 hlo70 hk70 hz70 hI70 ls hl ih70 => ?_) (fun z70 hz70 hI70 ls hl => ?_)
        · refine lv_iload hx hb dX5_bestSurfaces_70 (lv_at hl 0 rfl) ?_
          refine lv_iconst (v := 2) hx hb dX5_bestSurfaces_72 (by decide) ?_
          refine lv_aload_n hx hb dX5_bestSurfaces_73 rfl (lv_at hl 6 rfl) ?_
          refine va_get (D := (dC, dI)) (ci := 5) (v := .ref (q 17)) (C := RX5) (T := TX5) (N := 5) hx hb hts (by decide +kernel) hown hK hP 0 rfl rfl 4 (by decide) (hts (.fieldLink RX5 40 "AchromatDesk" "plates" "LAchromatDesk$PlateSet;") (by decide +kernel)) (fun _ h9 => h9) rfl dX5_bestSurfaces_74 ?_
          refine va_getN (D := (dC, dI)) (ci := 4) (v := .int (nI np)) (C := RX4) (T := TX4) (N := 2) hx hb hts (by decide +kernel) hown hK hP 9 rfl rfl 1 (by decide) (va_Nw.use (w := .fieldLinkNest "AchromatDesk" 204 "AchromatDesk$PlateSet" "count" "I" "AchromatDesk") rfl (hN.at 5 rfl)) (fun _ h9 => h9) rfl dX5_bestSurfaces_77 ?_
          refine lv_imul hx hb dX5_bestSurfaces_80 ?_
          refine rw_topi (pk_mul 2 np) ?_
          refine rn_ge (tgt := 179) hx hb k70 (2 * np) rfl rfl (by omega) (by omega) dX5_bestSurfaces_81 (by decide) (fun h81 => ?_) (fun h81 => ?_)
          · exfalso; omega
          · refine rjoin (nL := 14) 112 [(11, .int (nI k70)), (10, .int (nI k53)), (8, .long z70.2), (6, .long z70.1), (4, .long ((lp g).toInt64)), (2, .long (vA G (ix (lg g)))), (0, .ref (q 0)), (1, .int (nI g))] [.long (if k53 = k70 then -1 else labs (pB rd (vA G (ix (lg g))) k53 k70 - (lp g).toInt64))] (fun ls hl => ?_) (fun hj112 => ?_)
            · refine lv_lstore (lv' := [(12, .long (if k53 = k70 then -1 else labs (pB rd (vA G (ix (lg g))) k53 k70 - (lp g).toInt64))), (11, .int (nI k70)), (10, .int (nI k53)), (8, .long z70.2), (6, .long z70.1), (4, .long ((lp g).toInt64)), (2, .long (vA G (ix (lg g)))), (0, .ref (q 0)), (1, .int (nI g))]) hx hb dX5_bestSurfaces_112 hl (by decide) rfl (fun ls hl => ?_)
              refine lv_lload hx hb dX5_bestSurfaces_114 (lv_at hl 0 rfl) ?_
              refine lv_lconst (v := 0) hx hb dX5_bestSurfaces_116 (by decide) ?_
              refine rl_iflt (tgt := 173) hx hb dX5_bestSurfaces_117 dX5_bestSurfaces_118 (by decide) (fun h117 => ?_) (fun h117 => ?_)
              · refine lv_iinc (v := nI (k70 + 1)) (lv' := [(11, .int (nI (k70 + 1))), (12, .long (if k53 = k70 then -1 else labs (pB rd (vA G (ix (lg g))) k53 k70 - (lp g).toInt64))), (10, .int (nI k53)), (8, .long z70.2), (6, .long z70.1), (4, .long ((lp g).toInt64)), (2, .long (vA G (ix (lg g)))), (0, .ref (q 0)), (1, .int (nI g))]) hx hb dX5_bestSurfaces_173 hl (k := 1) rfl (by first | rfl | exact nI_add _ _) (by decide) rfl (fun ls hl => ?_)
                refine lv_goto (tgt := 70) hx hb dX5_bestSurfaces_176 (by decide) ?_
                exact ih70 z70 ((if_neg (fun w => absurd w.1 (Int64.not_le.mpr h117))).symm) (trivial) ls (lv_sub hl [0, 2, 3, 4, 5, 6, 7, 8] rfl)
              · refine lv_lload hx hb dX5_bestSurfaces_121 (lv_at hl 4 rfl) ?_
                refine lv_ldc2 (v := (-9000000000000000008)) hx hb hown (hts (.constantLong RX5 139 (-9000000000000000008)) (by decide +kernel)) dX5_bestSurfaces_123 ?_
                refine rl_ifeq (tgt := 138) hx hb dX5_bestSurfaces_126 dX5_bestSurfaces_127 (by decide) (fun h126 => ?_) (fun h126 => ?_)
                · refine lv_sipush (v := 1000) hx hb dX5_bestSurfaces_138 (by decide) ?_
                  refine lv_iload hx hb dX5_bestSurfaces_141 (lv_at hl 2 rfl) ?_
                  refine lv_iconst (v := 2) hx hb dX5_bestSurfaces_143 (by decide) ?_
                  refine lv_idiv hx hb dX5_bestSurfaces_144 (by decide) ?_
                  refine rw_topi (pk_div (a := k53) (d := 2) (by omega) (by omega) (by omega)) ?_
                  refine lv_imul hx hb dX5_bestSurfaces_145 ?_
                  refine rw_topi (pk_mul 1000 (k53 / 2)) ?_
                  refine lv_bipush (v := 10) hx hb dX5_bestSurfaces_146 (by decide) ?_
                  refine lv_iload hx hb dX5_bestSurfaces_148 (lv_at hl 1 rfl) ?_
                  refine lv_iconst (v := 2) hx hb dX5_bestSurfaces_150 (by decide) ?_
                  refine lv_idiv hx hb dX5_bestSurfaces_151 (by decide) ?_
                  refine rw_topi (pk_div (a := k70) (d := 2) (by omega) (by omega) (by omega)) ?_
                  refine lv_imul hx hb dX5_bestSurfaces_152 ?_
                  refine rw_topi (pk_mul 10 (k70 / 2)) ?_
                  refine lv_iadd hx hb dX5_bestSurfaces_153 ?_
                  refine rw_topi (nI_add (1000 * (k53 / 2)) (10 * (k70 / 2))) ?_
                  refine lv_iconst (v := 2) hx hb dX5_bestSurfaces_154 (by decide) ?_
                  refine lv_iload hx hb dX5_bestSurfaces_155 (lv_at hl 2 rfl) ?_
                  refine lv_iconst (v := 2) hx hb dX5_bestSurfaces_157 (by decide) ?_
                  refine lv_irem hx hb dX5_bestSurfaces_158 (by decide) ?_
                  refine rw_topi (pk_rem (a := k53) (d := 2) (by omega) (by omega) (by omega)) ?_
                  refine lv_imul hx hb dX5_bestSurfaces_159 ?_
                  refine rw_topi (pk_mul 2 (k53 % 2)) ?_
                  refine lv_iadd hx hb dX5_bestSurfaces_160 ?_
                  refine rw_topi (nI_add ((1000 * (k53 / 2)) + (10 * (k70 / 2))) (2 * (k53 % 2))) ?_
                  refine lv_iload hx hb dX5_bestSurfaces_161 (lv_at hl 1 rfl) ?_
                  refine lv_iconst (v := 2) hx hb dX5_bestSurfaces_163 (by decide) ?_
                  refine lv_irem hx hb dX5_bestSurfaces_164 (by decide) ?_
                  refine rw_topi (pk_rem (a := k70) (d := 2) (by omega) (by omega) (by omega)) ?_
                  refine lv_iadd hx hb dX5_bestSurfaces_165 ?_
                  refine rw_topi (nI_add (((1000 * (k53 / 2)) + (10 * (k70 / 2))) + (2 * (k53 % 2))) (k70 % 2)) ?_
                  refine lv_i2l (v := lN ((((1000 * (k53 / 2)) + (10 * (k70 / 2))) + (2 * (k53 % 2))) + (k70 % 2))) hx hb dX5_bestSurfaces_166 (nI_l (by omega)) ?_
                  refine lv_lstore (lv' := [(6, .long (lN ((((1000 * (k53 / 2)) + (10 * (k70 / 2))) + (2 * (k53 % 2))) + (k70 % 2)))), (12, .long (if k53 = k70 then -1 else labs (pB rd (vA G (ix (lg g))) k53 k70 - (lp g).toInt64))), (11, .int (nI k70)), (10, .int (nI k53)), (8, .long z70.2), (4, .long ((lp g).toInt64)), (2, .long (vA G (ix (lg g)))), (0, .ref (q 0)), (1, .int (nI g))]) hx hb dX5_bestSurfaces_167 hl (by decide) rfl (fun ls hl => ?_)
                  refine lv_lload hx hb dX5_bestSurfaces_169 (lv_at hl 1 rfl) ?_
                  refine lv_lstore (lv' := [(8, .long (if k53 = k70 then -1 else labs (pB rd (vA G (ix (lg g))) k53 k70 - (lp g).toInt64))), (6, .long (lN ((((1000 * (k53 / 2)) + (10 * (k70 / 2))) + (2 * (k53 % 2))) + (k70 % 2)))), (12, .long (if k53 = k70 then -1 else labs (pB rd (vA G (ix (lg g))) k53 k70 - (lp g).toInt64))), (11, .int (nI k70)), (10, .int (nI k53)), (4, .long ((lp g).toInt64)), (2, .long (vA G (ix (lg g)))), (0, .ref (q 0)), (1, .int (nI g))]) hx hb dX5_bestSurfaces_171 hl (by decide) rfl (fun ls hl => ?_)
                  refine lv_iinc (v := nI (k70 + 1)) (lv' := [(11, .int (nI (k70 + 1))), (8, .long (if k53 = k70 then -1 else labs (pB rd (vA G (ix (lg g))) k53 k70 - (lp g).toInt64))), (6, .long (lN ((((1000 * (k53 / 2)) + (10 * (k70 / 2))) + (2 * (k53 % 2))) + (k70 % 2)))), (12, .long (if k53 = k70 then -1 else labs (pB rd (vA G (ix (lg g))) k53 k70 - (lp g).toInt64))), (10, .int (nI k53)), (4, .long ((lp g).toInt64)), (2, .long (vA G (ix (lg g)))), (0, .ref (q 0)), (1, .int (nI g))]) hx hb dX5_bestSurfaces_173 hl (k := 3) rfl (by first | rfl | exact nI_add _ _) (by decide) rfl (fun ls hl => ?_)
                  refine lv_goto (tgt := 70) hx hb dX5_bestSurfaces_176 (by decide) ?_
                  exact ih70 (lN ((((1000 * (k53 / 2)) + (10 * (k70 / 2))) + (2 * (k53 % 2))) + (k70 % 2)), if k53 = k70 then -1 else labs (pB rd (vA G (ix (lg g))) k53 k70 - (lp g).toInt64)) ((if_pos ⟨Int64.not_lt.mp h117, Or.inl h126⟩).symm) (trivial) ls (lv_sub hl [0, 4, 1, 2, 5, 6, 7, 8] rfl)
                · refine lv_lload hx hb dX5_bestSurfaces_130 (lv_at hl 0 rfl) ?_
                  refine lv_lload hx hb dX5_bestSurfaces_132 (lv_at hl 3 rfl) ?_
                  refine rl_ifge (tgt := 173) hx hb dX5_bestSurfaces_134 dX5_bestSurfaces_135 (by decide) (fun h134 => ?_) (fun h134 => ?_)
                  · refine lv_iinc (v := nI (k70 + 1)) (lv' := [(11, .int (nI (k70 + 1))), (12, .long (if k53 = k70 then -1 else labs (pB rd (vA G (ix (lg g))) k53 k70 - (lp g).toInt64))), (10, .int (nI k53)), (8, .long z70.2), (6, .long z70.1), (4, .long ((lp g).toInt64)), (2, .long (vA G (ix (lg g)))), (0, .ref (q 0)), (1, .int (nI g))]) hx hb dX5_bestSurfaces_173 hl (k := 1) rfl (by first | rfl | exact nI_add _ _) (by decide) rfl (fun ls hl => ?_)
                    refine lv_goto (tgt := 70) hx hb dX5_bestSurfaces_176 (by decide) ?_
                    exact ih70 z70 ((if_neg (fun w => w.2.elim h126 h134)).symm) (trivial) ls (lv_sub hl [0, 2, 3, 4, 5, 6, 7, 8] rfl)
                  · refine lv_sipush (v := 1000) hx hb dX5_bestSurfaces_138 (by decide) ?_
                    refine lv_iload hx hb dX5_bestSurfaces_141 (lv_at hl 2 rfl) ?_
                    refine lv_iconst (v := 2) hx hb dX5_bestSurfaces_143 (by decide) ?_
                    refine lv_idiv hx hb dX5_bestSurfaces_144 (by decide) ?_
                    refine rw_topi (pk_div (a := k53) (d := 2) (by omega) (by omega) (by omega)) ?_
                    refine lv_imul hx hb dX5_bestSurfaces_145 ?_
                    refine rw_topi (pk_mul 1000 (k53 / 2)) ?_
                    refine lv_bipush (v := 10) hx hb dX5_bestSurfaces_146 (by decide) ?_
                    refine lv_iload hx hb dX5_bestSurfaces_148 (lv_at hl 1 rfl) ?_
                    refine lv_iconst (v := 2) hx hb dX5_bestSurfaces_150 (by decide) ?_
                    refine lv_idiv hx hb dX5_bestSurfaces_151 (by decide) ?_
                    refine rw_topi (pk_div (a := k70) (d := 2) (by omega) (by omega) (by omega)) ?_
                    refine lv_imul hx hb dX5_bestSurfaces_152 ?_
                    refine rw_topi (pk_mul 10 (k70 / 2)) ?_
                    refine lv_iadd hx hb dX5_bestSurfaces_153 ?_
                    refine rw_topi (nI_add (1000 * (k53 / 2)) (10 * (k70 / 2))) ?_
                    refine lv_iconst (v := 2) hx hb dX5_bestSurfaces_154 (by decide) ?_
                    refine lv_iload hx hb dX5_bestSurfaces_155 (lv_at hl 2 rfl) ?_
                    refine lv_iconst (v := 2) hx hb dX5_bestSurfaces_157 (by decide) ?_
                    refine lv_irem hx hb dX5_bestSurfaces_158 (by decide) ?_
                    refine rw_topi (pk_rem (a := k53) (d := 2) (by omega) (by omega) (by omega)) ?_
                    refine lv_imul hx hb dX5_bestSurfaces_159 ?_
                    refine rw_topi (pk_mul 2 (k53 % 2)) ?_
                    refine lv_iadd hx hb dX5_bestSurfaces_160 ?_
                    refine rw_topi (nI_add ((1000 * (k53 / 2)) + (10 * (k70 / 2))) (2 * (k53 % 2))) ?_
                    refine lv_iload hx hb dX5_bestSurfaces_161 (lv_at hl 1 rfl) ?_
                    refine lv_iconst (v := 2) hx hb dX5_bestSurfaces_163 (by decide) ?_
                    refine lv_irem hx hb dX5_bestSurfaces_164 (by decide) ?_
                    refine rw_topi (pk_rem (a := k70) (d := 2) (by omega) (by omega) (by omega)) ?_
                    refine lv_iadd hx hb dX5_bestSurfaces_165 ?_
                    refine rw_topi (nI_add (((1000 * (k53 / 2)) + (10 * (k70 / 2))) + (2 * (k53 % 2))) (k70 % 2)) ?_
                    refine lv_i2l (v := lN ((((1000 * (k53 / 2)) + (10 * (k70 / 2))) + (2 * (k53 % 2))) + (k70 % 2))) hx hb dX5_bestSurfaces_166 (nI_l (by omega)) ?_
                    refine lv_lstore (lv' := [(6, .long (lN ((((1000 * (k53 / 2)) + (10 * (k70 / 2))) + (2 * (k53 % 2))) + (k70 % 2)))), (12, .long (if k53 = k70 then -1 else labs (pB rd (vA G (ix (lg g))) k53 k70 - (lp g).toInt64))), (11, .int (nI k70)), (10, .int (nI k53)), (8, .long z70.2), (4, .long ((lp g).toInt64)), (2, .long (vA G (ix (lg g)))), (0, .ref (q 0)), (1, .int (nI g))]) hx hb dX5_bestSurfaces_167 hl (by decide) rfl (fun ls hl => ?_)
                    refine lv_lload hx hb dX5_bestSurfaces_169 (lv_at hl 1 rfl) ?_
                    refine lv_lstore (lv' := [(8, .long (if k53 = k70 then -1 else labs (pB rd (vA G (ix (lg g))) k53 k70 - (lp g).toInt64))), (6, .long (lN ((((1000 * (k53 / 2)) + (10 * (k70 / 2))) + (2 * (k53 % 2))) + (k70 % 2)))), (12, .long (if k53 = k70 then -1 else labs (pB rd (vA G (ix (lg g))) k53 k70 - (lp g).toInt64))), (11, .int (nI k70)), (10, .int (nI k53)), (4, .long ((lp g).toInt64)), (2, .long (vA G (ix (lg g)))), (0, .ref (q 0)), (1, .int (nI g))]) hx hb dX5_bestSurfaces_171 hl (by decide) rfl (fun ls hl => ?_)
                    refine lv_iinc (v := nI (k70 + 1)) (lv' := [(11, .int (nI (k70 + 1))), (8, .long (if k53 = k70 then -1 else labs (pB rd (vA G (ix (lg g))) k53 k70 - (lp g).toInt64))), (6, .long (lN ((((1000 * (k53 / 2)) + (10 * (k70 / 2))) + (2 * (k53 % 2))) + (k70 % 2)))), (12, .long (if k53 = k70 then -1 else labs (pB rd (vA G (ix (lg g))) k53 k70 - (lp g).toInt64))), (10, .int (nI k53)), (4, .long ((lp g).toInt64)), (2, .long (vA G (ix (lg g)))), (0, .ref (q 0)), (1, .int (nI g))]) hx hb dX5_bestSurfaces_173 hl (k := 3) rfl (by first | rfl | exact nI_add _ _) (by decide) rfl (fun ls hl => ?_)
                    refine lv_goto (tgt := 70) hx hb dX5_bestSurfaces_176 (by decide) ?_
                    exact ih70 (lN ((((1000 * (k53 / 2)) + (10 * (k70 / 2))) + (2 * (k53 % 2))) + (k70 % 2)), if k53 = k70 then -1 else labs (pB rd (vA G (ix (lg g))) k53 k70 - (lp g).toInt64)) ((if_pos ⟨Int64.not_lt.mp h117, Or.inr h134⟩).symm) (trivial) ls (lv_sub hl [0, 4, 1, 2, 5, 6, 7, 8] rfl)
            · refine lv_iload hx hb dX5_bestSurfaces_84 (lv_at hl 1 rfl) ?_
              refine lv_iload hx hb dX5_bestSurfaces_86 (lv_at hl 0 rfl) ?_
              refine rn_ne (tgt := 97) hx hb k53 k70 rfl rfl (by omega) (by omega) dX5_bestSurfaces_88 (by decide) (fun h88 => ?_) (fun h88 => ?_)
              · refine lv_aload_n hx hb dX5_bestSurfaces_97 rfl (lv_at hl 6 rfl) ?_
                refine lv_lload_n hx hb dX5_bestSurfaces_98 rfl (lv_at hl 5 rfl) ?_
                refine lv_iload hx hb dX5_bestSurfaces_99 (lv_at hl 1 rfl) ?_
                refine lv_iload hx hb dX5_bestSurfaces_101 (lv_at hl 0 rfl) ?_
                refine roVl (As := [.long (vA G (ix (lg g))), .int (nI k53), .int (nI k70)]) (rest := []) (c_X5_powerBetween l dC dI cI cJ q rd np hp (vA G (ix (lg g))) k53 k70 (by omega) (by omega)) ⟨hx, hb, hml, hown, hts⟩ (cwV 3 hts gX5_bestSurfaces_X5_powerBetween rfl rfl rfl (by decide +kernel) ⟨Nat.le_of_ble_eq_true rfl, Nat.le_of_ble_eq_true rfl⟩) (hP.sub [0, 9, 10] rfl) hK hN (ci := 5) rfl rfl rfl hl.1 rfl (Nat.le_of_ble_eq_true rfl) dX5_bestSurfaces_103 ⟨Nat.zero_le _, Nat.zero_le _⟩ (fun r hr0 => ?_)
                subst hr0
                refine lv_lload hx hb dX5_bestSurfaces_106 (lv_at hl 4 rfl) ?_
                refine lv_lsub hx hb dX5_bestSurfaces_108 ?_
                refine va_mabs_long hx hb (by rw [hml]; exact hl.1.symm) hown (hts (.methodLink RX5 218 Lib.MathLoose.abs_long.x) (by decide +kernel)) (hts (.static Lib.MathLoose.abs_long.x) (by decide +kernel)) (hts (.initialized "java/lang/Math") (by decide +kernel)) (hts (.code Lib.MathLoose.abs_long.x Lib.MathLoose.abs_long.code 2 (some .long)) (by decide +kernel)) (Nat.le_of_ble_eq_true rfl) (Nat.le_of_ble_eq_true rfl) (Nat.zero_le _) (Nat.zero_le _) dX5_bestSurfaces_109 ?_
                refine rw_topl (show (labs (pB rd (vA G (ix (lg g))) k53 k70 - (lp g).toInt64) : Int64) = (if k53 = k70 then -1 else labs (pB rd (vA G (ix (lg g))) k53 k70 - (lp g).toInt64) : Int64) from by first | rw [if_pos h88] | rw [if_neg h88]) ?_
                exact hj112 ls (lv_sub hl [0, 1, 2, 3, 4, 5, 6, 7] rfl)
              · refine lv_ldc2 (v := (-1)) hx hb hown (hts (.constantLong RX5 212 (-1)) (by decide +kernel)) dX5_bestSurfaces_91 ?_
                refine lv_goto (tgt := 112) hx hb dX5_bestSurfaces_94 (by decide) ?_
                refine rw_topl (show ((-1) : Int64) = (if k53 = k70 then -1 else labs (pB rd (vA G (ix (lg g))) k53 k70 - (lp g).toInt64) : Int64) from by first | rw [if_pos h88] | rw [if_neg h88]) ?_
                exact hj112 ls (lv_sub hl [0, 1, 2, 3, 4, 5, 6, 7] rfl)
        · refine lv_iload hx hb dX5_bestSurfaces_70 (lv_at hl 0 rfl) ?_
          refine lv_iconst (v := 2) hx hb dX5_bestSurfaces_72 (by decide) ?_
          refine lv_aload_n hx hb dX5_bestSurfaces_73 rfl (lv_at hl 6 rfl) ?_
          refine va_get (D := (dC, dI)) (ci := 5) (v := .ref (q 17)) (C := RX5) (T := TX5) (N := 5) hx hb hts (by decide +kernel) hown hK hP 0 rfl rfl 4 (by decide) (hts (.fieldLink RX5 40 "AchromatDesk" "plates" "LAchromatDesk$PlateSet;") (by decide +kernel)) (fun _ h9 => h9) rfl dX5_bestSurfaces_74 ?_
          refine va_getN (D := (dC, dI)) (ci := 4) (v := .int (nI np)) (C := RX4) (T := TX4) (N := 2) hx hb hts (by decide +kernel) hown hK hP 9 rfl rfl 1 (by decide) (va_Nw.use (w := .fieldLinkNest "AchromatDesk" 204 "AchromatDesk$PlateSet" "count" "I" "AchromatDesk") rfl (hN.at 5 rfl)) (fun _ h9 => h9) rfl dX5_bestSurfaces_77 ?_
          refine lv_imul hx hb dX5_bestSurfaces_80 ?_
          refine rw_topi (pk_mul 2 np) ?_
          refine rn_ge (tgt := 179) hx hb (2 * np) (2 * np) rfl rfl (by omega) (by omega) dX5_bestSurfaces_81 (by decide) (fun h81 => ?_) (fun h81 => ?_)
          · refine lv_iinc (v := nI (k53 + 1)) (lv' := [(10, .int (nI (k53 + 1))), (11, .int (nI (2 * np))), (8, .long z70.2), (6, .long z70.1), (4, .long ((lp g).toInt64)), (2, .long (vA G (ix (lg g)))), (0, .ref (q 0)), (1, .int (nI g))]) hx hb dX5_bestSurfaces_179 hl (k := 1) rfl (by first | rfl | exact nI_add _ _) (by decide) rfl (fun ls hl => ?_)
            refine lv_goto (tgt := 53) hx hb dX5_bestSurfaces_182 (by decide) ?_
            exact ih53 z70 (hz70) (trivial) ls (lv_sub hl [0, 2, 3, 4, 5, 6, 7] rfl)
          · exfalso; omega
    · refine lv_iload hx hb dX5_bestSurfaces_53 (lv_at hl 0 rfl) ?_
      refine lv_iconst (v := 2) hx hb dX5_bestSurfaces_55 (by decide) ?_
      refine lv_aload_n hx hb dX5_bestSurfaces_56 rfl (lv_at hl 5 rfl) ?_
      refine va_get (D := (dC, dI)) (ci := 5) (v := .ref (q 17)) (C := RX5) (T := TX5) (N := 5) hx hb hts (by decide +kernel) hown hK hP 0 rfl rfl 4 (by decide) (hts (.fieldLink RX5 40 "AchromatDesk" "plates" "LAchromatDesk$PlateSet;") (by decide +kernel)) (fun _ h9 => h9) rfl dX5_bestSurfaces_57 ?_
      refine va_getN (D := (dC, dI)) (ci := 4) (v := .int (nI np)) (C := RX4) (T := TX4) (N := 2) hx hb hts (by decide +kernel) hown hK hP 9 rfl rfl 1 (by decide) (va_Nw.use (w := .fieldLinkNest "AchromatDesk" 204 "AchromatDesk$PlateSet" "count" "I" "AchromatDesk") rfl (hN.at 5 rfl)) (fun _ h9 => h9) rfl dX5_bestSurfaces_60 ?_
      refine lv_imul hx hb dX5_bestSurfaces_63 ?_
      refine rw_topi (pk_mul 2 np) ?_
      refine rn_ge (tgt := 185) hx hb (2 * np) (2 * np) rfl rfl (by omega) (by omega) dX5_bestSurfaces_64 (by decide) (fun h64 => ?_) (fun h64 => ?_)
      · refine lv_lload hx hb dX5_bestSurfaces_185 (lv_at hl 2 rfl) ?_
        exact W.lret hx hb hr (fun t ht hW => ⟨_, rfl, by rw [sBS, if_pos h8, ix_nI (by omega), hz53]; rfl, ht⟩) (fun _ h => absurd h List.not_mem_nil) dX5_bestSurfaces_187
      · exfalso; omega
  · refine lv_ldc2 (v := (-9000000000000000003)) hx hb hown (hts (.constantLong RX5 183 (-9000000000000000003)) (by decide +kernel)) dX5_bestSurfaces_11 ?_
    exact W.lret hx hb hr (fun t ht hW => ⟨_, rfl, by rw [sBS, if_neg h8], ht⟩) (fun _ h => absurd h List.not_mem_nil) dX5_bestSurfaces_14

set_option maxHeartbeats 4000000 in
set_option maxRecDepth 100000 in
theorem c_X5_surfacePower (l : Launch) (dC : Nat → ClassId) (dI : Nat → Nat → Nat) (cI cJ : ClassId) (q : Nat → Nat) (G : GL) (n : Nat) (hn : n ≤ 20) (rd : Nat → Int32) (np : Nat) (hp : np ≤ 16) (x y : Int32) : Met l yX5_surfacePower wsX5_surfacePower ({ frames := 3, cells := 0, slots := 0, locals := 76 }) (va_Pc [.ref (q 0), .int x, .int y] (RO (dC, dI) (tyK cI cJ) ([(q 0, .inr (5, [.ref (q 1), .ref (q 3), .ref (q 8), .ref (q 14), .ref (q 17)])), (q 3, .inr (0, [.ref (q 4), .ref (q 5), .ref (q 6), .ref (q 7), .int (nI n)])), (q 4, .inl (cJ, 20, .inr (.inl (gK G)))), (q 5, .inl (cI, 20, .inl (gF G))), (q 6, .inl (cI, 20, .inl (gD G))), (q 7, .inl (cI, 20, .inl (gC G))), (q 17, .inr (4, [.ref (q 18), .int (nI np)])), (q 18, .inl (cI, 16, .inl rd))]))) (vp_Sl (fun r => r = sSP G n rd np x y)) 0 0 (fun _ => False) := by
  refine Met.ofW (cc := cX5_surfacePower) (maxL := 7) (ret := (some .long)) (by decide) rfl ?_
  intro p e s m args below meth c s₁ B hml hv
  obtain ⟨rfl, hP, hK, hN⟩ := hv
  have hx := B.exec
  have hb := B.bytes
  have hr := B.returns
  have hts := atoms_spec (ws := wsX5_surfacePower) B.pre
  have hown : s.vm.findClass RX5 = some m.cls := findClass_of_methodNamed B.named
  have hlocks := B.notSynchronized
  have hP : va_P (dC, dI) vwCl [(q 0, .inr (5, [.ref (q 1), .ref (q 3), .ref (q 8), .ref (q 14), .ref (q 17)])), (q 3, .inr (0, [.ref (q 4), .ref (q 5), .ref (q 6), .ref (q 7), .int (nI n)])), (q 4, .inl (cJ, 20, .inr (.inl (gK G)))), (q 5, .inl (cI, 20, .inl (gF G))), (q 6, .inl (cI, 20, .inl (gD G))), (q 7, .inl (cI, 20, .inl (gC G))), (q 17, .inr (4, [.ref (q 18), .int (nI np)])), (q 18, .inl (cI, 16, .inl rd))] s.heap := hP
  have hl := lv_entry ([.ref (q 0), .int x, .int y]) (n := 7) (Nat.le_of_ble_eq_true rfl)
  rw [lg_entry_eq]
  generalize (lg_sl ([.ref (q 0), .int x, .int y]) ++ List.replicate (7 - (lg_sl ([.ref (q 0), .int x, .int y])).length) Slot.unset).toArray = ls at hl ⊢
  have hl : lv_has ls 7 [(0, .ref (q 0)), (1, .int x), (2, .int y)] := hl
  refine lv_aload_n hx hb dX5_surfacePower_0 rfl (lv_at hl 0 rfl) ?_
  refine va_get (D := (dC, dI)) (ci := 5) (v := .ref (q 3)) (C := RX5) (T := TX5) (N := 5) hx hb hts (by decide +kernel) hown hK hP 0 rfl rfl 1 (by decide) (hts (.fieldLink RX5 19 "AchromatDesk" "glasses" "LAchromatDesk$Catalogue;") (by decide +kernel)) (fun _ h9 => h9) rfl dX5_surfacePower_1 ?_
  refine lv_iload_n hx hb dX5_surfacePower_4 rfl (lv_at hl 1 rfl) ?_
  refine roVi (As := [.int x]) (rest := []) (c_X0_has l dC dI cI cJ q G n hn x) ⟨hx, hb, hml, hown, hts⟩ (cwV 1 hts gX5_surfacePower_X0_has rfl rfl rfl (by decide +kernel) ⟨Nat.le_of_ble_eq_true rfl, Nat.le_of_ble_eq_true rfl⟩) (hP.sub [1, 2, 3, 4, 5] rfl) hK hN (ci := 0) rfl rfl rfl hl.1 rfl (Nat.le_of_ble_eq_true rfl) dX5_surfacePower_5 ⟨Nat.zero_le _, Nat.zero_le _⟩ (fun r hr0 => ?_)
  subst hr0
  refine rb_ne (tgt := 15) hx hb dX5_surfacePower_8 (by decide) (fun h8 => ?_) (fun h8 => ?_)
  · obtain ⟨g, hg, eg⟩ := hasP_ex (by omega) h8
    subst eg
    refine lv_iload_n hx hb dX5_surfacePower_15 rfl (lv_at hl 2 rfl) ?_
    refine lv_if_lt (tgt := 27) hx hb dX5_surfacePower_16 (by decide) (fun h16 => ?_) (fun h16 => ?_)
    · refine lv_ldc2 (v := (-9000000000000000001)) hx hb hown (hts (.constantLong RX5 44 (-9000000000000000001)) (by decide +kernel)) dX5_surfacePower_27 ?_
      exact W.lret hx hb hr (fun t ht hW => ⟨_, rfl, by rw [sSP, if_pos h8, if_neg (fun w => absurd w.1 (Int32.not_le.mpr h16))], ht⟩) (fun _ h => absurd h List.not_mem_nil) dX5_surfacePower_30
    · obtain ⟨ch, hch, ech⟩ := nI_of h16
      subst ech
      refine lv_iload_n hx hb dX5_surfacePower_19 rfl (lv_at hl 2 rfl) ?_
      refine lv_bipush (v := 10) hx hb dX5_surfacePower_20 (by decide) ?_
      refine lv_irem hx hb dX5_surfacePower_22 (by decide) ?_
      refine rw_topi (pk_rem (a := ch) (d := 10) (by omega) (by omega) (by omega)) ?_
      refine lv_iconst (v := 3) hx hb dX5_surfacePower_23 (by decide) ?_
      refine rn_le (tgt := 31) hx hb (ch % 10) 3 rfl rfl (by omega) (by omega) dX5_surfacePower_24 (by decide) (fun h24 => ?_) (fun h24 => ?_)
      · refine lv_iload_n hx hb dX5_surfacePower_31 rfl (lv_at hl 2 rfl) ?_
        refine lv_sipush (v := 1000) hx hb dX5_surfacePower_32 (by decide) ?_
        refine lv_idiv hx hb dX5_surfacePower_35 (by decide) ?_
        refine rw_topi (pk_div (a := ch) (d := 1000) (by omega) (by omega) (by omega)) ?_
        refine lv_istore_n (lv' := [(3, .int (nI (ch / 1000))), (0, .ref (q 0)), (1, .int (nI g)), (2, .int (nI ch))]) hx hb dX5_surfacePower_36 rfl hl (by decide) rfl (fun ls hl => ?_)
        refine lv_iload_n hx hb dX5_surfacePower_37 rfl (lv_at hl 3 rfl) ?_
        refine lv_bipush (v := 10) hx hb dX5_surfacePower_38 (by decide) ?_
        refine lv_idiv hx hb dX5_surfacePower_40 (by decide) ?_
        refine rw_topi (pk_div (a := ch) (d := 10) (by omega) (by omega) (by omega)) ?_
        refine lv_bipush (v := 100) hx hb dX5_surfacePower_41 (by decide) ?_
        refine lv_irem hx hb dX5_surfacePower_43 (by decide) ?_
        refine rw_topi (pk_rem (a := ch / 10) (d := 100) (by omega) (by omega) (by omega)) ?_
        refine lv_istore (lv' := [(4, .int (nI ((ch / 10) % 100))), (3, .int (nI (ch / 1000))), (0, .ref (q 0)), (1, .int (nI g)), (2, .int (nI ch))]) hx hb dX5_surfacePower_44 hl (by decide) rfl (fun ls hl => ?_)
        refine lv_aload_n hx hb dX5_surfacePower_46 rfl (lv_at hl 2 rfl) ?_
        refine va_get (D := (dC, dI)) (ci := 5) (v := .ref (q 17)) (C := RX5) (T := TX5) (N := 5) hx hb hts (by decide +kernel) hown hK hP 0 rfl rfl 4 (by decide) (hts (.fieldLink RX5 40 "AchromatDesk" "plates" "LAchromatDesk$PlateSet;") (by decide +kernel)) (fun _ h9 => h9) rfl dX5_surfacePower_47 ?_
        refine lv_iload_n hx hb dX5_surfacePower_50 rfl (lv_at hl 1 rfl) ?_
        refine roVi (As := [.int (nI (ch / 1000))]) (rest := []) (c_X4_has l dC dI cI cJ q rd np hp (nI (ch / 1000))) ⟨hx, hb, hml, hown, hts⟩ (cwV 1 hts gX5_surfacePower_X4_has rfl rfl rfl (by decide +kernel) ⟨Nat.le_of_ble_eq_true rfl, Nat.le_of_ble_eq_true rfl⟩) (hP.sub [6, 7] rfl) hK hN (ci := 4) rfl rfl rfl hl.1 rfl (Nat.le_of_ble_eq_true rfl) dX5_surfacePower_51 ⟨Nat.zero_le _, Nat.zero_le _⟩ (fun r hr0 => ?_)
        subst hr0
        refine rb_eq (tgt := 69) hx hb dX5_surfacePower_54 (by decide) (fun h54 => ?_) (fun h54 => ?_)
        · refine lv_ldc2 (v := (-9000000000000000001)) hx hb hown (hts (.constantLong RX5 44 (-9000000000000000001)) (by decide +kernel)) dX5_surfacePower_69 ?_
          exact W.lret hx hb hr (fun t ht hW => ⟨_, rfl, by rw [sSP, if_pos h8, ix_nI (g := ch) (by omega), if_neg (fun w => h54 ((hasP_iff (by omega) (by omega)).mpr w.2.2.1))], ht⟩) (fun _ h => absurd h List.not_mem_nil) dX5_surfacePower_72
        · have hA1 := (hasP_iff (by omega) (by omega)).mp h54
          refine lv_aload_n hx hb dX5_surfacePower_57 rfl (lv_at hl 2 rfl) ?_
          refine va_get (D := (dC, dI)) (ci := 5) (v := .ref (q 17)) (C := RX5) (T := TX5) (N := 5) hx hb hts (by decide +kernel) hown hK hP 0 rfl rfl 4 (by decide) (hts (.fieldLink RX5 40 "AchromatDesk" "plates" "LAchromatDesk$PlateSet;") (by decide +kernel)) (fun _ h9 => h9) rfl dX5_surfacePower_58 ?_
          refine lv_iload hx hb dX5_surfacePower_61 (lv_at hl 0 rfl) ?_
          refine roVi (As := [.int (nI ((ch / 10) % 100))]) (rest := []) (c_X4_has l dC dI cI cJ q rd np hp (nI ((ch / 10) % 100))) ⟨hx, hb, hml, hown, hts⟩ (cwV 1 hts gX5_surfacePower_X4_has rfl rfl rfl (by decide +kernel) ⟨Nat.le_of_ble_eq_true rfl, Nat.le_of_ble_eq_true rfl⟩) (hP.sub [6, 7] rfl) hK hN (ci := 4) rfl rfl rfl hl.1 rfl (Nat.le_of_ble_eq_true rfl) dX5_surfacePower_63 ⟨Nat.zero_le _, Nat.zero_le _⟩ (fun r hr0 => ?_)
          subst hr0
          refine rb_ne (tgt := 73) hx hb dX5_surfacePower_66 (by decide) (fun h66 => ?_) (fun h66 => ?_)
          · have hB1 := (hasP_iff (by omega) (by omega)).mp h66
            refine lv_iconst (v := 2) hx hb dX5_surfacePower_73 (by decide) ?_
            refine lv_iload_n hx hb dX5_surfacePower_74 rfl (lv_at hl 1 rfl) ?_
            refine lv_imul hx hb dX5_surfacePower_75 ?_
            refine rw_topi (pk_mul 2 (ch / 1000)) ?_
            refine lv_iload_n hx hb dX5_surfacePower_76 rfl (lv_at hl 4 rfl) ?_
            refine lv_bipush (v := 10) hx hb dX5_surfacePower_77 (by decide) ?_
            refine lv_irem hx hb dX5_surfacePower_79 (by decide) ?_
            refine rw_topi (pk_rem (a := ch) (d := 10) (by omega) (by omega) (by omega)) ?_
            refine lv_iconst (v := 2) hx hb dX5_surfacePower_80 (by decide) ?_
            refine lv_idiv hx hb dX5_surfacePower_81 (by decide) ?_
            refine rw_topi (pk_div (a := ch % 10) (d := 2) (by omega) (by omega) (by omega)) ?_
            refine lv_iadd hx hb dX5_surfacePower_82 ?_
            refine rw_topi (nI_add (2 * (ch / 1000)) ((ch % 10) / 2)) ?_
            refine lv_istore (lv' := [(5, .int (nI ((2 * (ch / 1000)) + ((ch % 10) / 2)))), (4, .int (nI ((ch / 10) % 100))), (3, .int (nI (ch / 1000))), (0, .ref (q 0)), (1, .int (nI g)), (2, .int (nI ch))]) hx hb dX5_surfacePower_83 hl (by decide) rfl (fun ls hl => ?_)
            refine lv_iconst (v := 2) hx hb dX5_surfacePower_85 (by decide) ?_
            refine lv_iload hx hb dX5_surfacePower_86 (lv_at hl 1 rfl) ?_
            refine lv_imul hx hb dX5_surfacePower_88 ?_
            refine rw_topi (pk_mul 2 ((ch / 10) % 100)) ?_
            refine lv_iload_n hx hb dX5_surfacePower_89 rfl (lv_at hl 5 rfl) ?_
            refine lv_iconst (v := 2) hx hb dX5_surfacePower_90 (by decide) ?_
            refine lv_irem hx hb dX5_surfacePower_91 (by decide) ?_
            refine rw_topi (pk_rem (a := ch) (d := 2) (by omega) (by omega) (by omega)) ?_
            refine lv_iadd hx hb dX5_surfacePower_92 ?_
            refine rw_topi (nI_add (2 * ((ch / 10) % 100)) (ch % 2)) ?_
            refine lv_istore (lv' := [(6, .int (nI ((2 * ((ch / 10) % 100)) + (ch % 2)))), (5, .int (nI ((2 * (ch / 1000)) + ((ch % 10) / 2)))), (4, .int (nI ((ch / 10) % 100))), (3, .int (nI (ch / 1000))), (0, .ref (q 0)), (1, .int (nI g)), (2, .int (nI ch))]) hx hb dX5_surfacePower_93 hl (by decide) rfl (fun ls hl => ?_)
            refine lv_iload hx hb dX5_surfacePower_95 (lv_at hl 1 rfl) ?_
            refine lv_iload hx hb dX5_surfacePower_97 (lv_at hl 0 rfl) ?_
            refine rn_ne (tgt := 108) hx hb ((2 * (ch / 1000)) + ((ch % 10) / 2)) ((2 * ((ch / 10) % 100)) + (ch % 2)) rfl rfl (by omega) (by omega) dX5_surfacePower_99 (by decide) (fun h99 => ?_) (fun h99 => ?_)
            · refine lv_aload_n hx hb dX5_surfacePower_108 rfl (lv_at hl 4 rfl) ?_
              refine lv_aload_n hx hb dX5_surfacePower_109 rfl (lv_at hl 4 rfl) ?_
              refine va_get (D := (dC, dI)) (ci := 5) (v := .ref (q 3)) (C := RX5) (T := TX5) (N := 5) hx hb hts (by decide +kernel) hown hK hP 0 rfl rfl 1 (by decide) (hts (.fieldLink RX5 19 "AchromatDesk" "glasses" "LAchromatDesk$Catalogue;") (by decide +kernel)) (fun _ h9 => h9) rfl dX5_surfacePower_110 ?_
              refine lv_iload_n hx hb dX5_surfacePower_113 rfl (lv_at hl 5 rfl) ?_
              refine roVl (As := [.int (nI g)]) (rest := [.ref (q 0)]) (c_X0_valueA l dC dI cI cJ q G n hn g (by omega)) ⟨hx, hb, hml, hown, hts⟩ (cwV 1 hts gX5_surfacePower_X0_valueA rfl rfl rfl (by decide +kernel) ⟨Nat.le_of_ble_eq_true rfl, Nat.le_of_ble_eq_true rfl⟩) (hP.sub [1, 2, 3, 4, 5] rfl) hK hN (ci := 0) rfl rfl rfl hl.1 rfl (Nat.le_of_ble_eq_true rfl) dX5_surfacePower_114 ⟨Nat.zero_le _, Nat.zero_le _⟩ (fun r hr0 => ?_)
              subst hr0
              refine lv_iload hx hb dX5_surfacePower_117 (lv_at hl 1 rfl) ?_
              refine lv_iload hx hb dX5_surfacePower_119 (lv_at hl 0 rfl) ?_
              refine roVl (As := [.long (vA G g), .int (nI ((2 * (ch / 1000)) + ((ch % 10) / 2))), .int (nI ((2 * ((ch / 10) % 100)) + (ch % 2)))]) (rest := []) (c_X5_powerBetween l dC dI cI cJ q rd np hp (vA G g) ((2 * (ch / 1000)) + ((ch % 10) / 2)) ((2 * ((ch / 10) % 100)) + (ch % 2)) (by omega) (by omega)) ⟨hx, hb, hml, hown, hts⟩ (cwV 3 hts gX5_surfacePower_X5_powerBetween rfl rfl rfl (by decide +kernel) ⟨Nat.le_of_ble_eq_true rfl, Nat.le_of_ble_eq_true rfl⟩) (hP.sub [0, 6, 7] rfl) hK hN (ci := 5) rfl rfl rfl hl.1 rfl (Nat.le_of_ble_eq_true rfl) dX5_surfacePower_121 ⟨Nat.zero_le _, Nat.zero_le _⟩ (fun r hr0 => ?_)
              subst hr0
              exact W.lret hx hb hr (fun t ht hW => ⟨_, rfl, by rw [sSP, if_pos h8, ix_nI (g := ch) (by omega), if_pos ⟨nI_pos' (by omega), h24, hA1, hB1⟩, if_neg h99, ix_nI (g := g) (by omega)], ht⟩) (fun _ h => absurd h List.not_mem_nil) dX5_surfacePower_124
            · refine lv_ldc2 (v := (-9000000000000000001)) hx hb hown (hts (.constantLong RX5 44 (-9000000000000000001)) (by decide +kernel)) dX5_surfacePower_102 ?_
              refine lv_goto (tgt := 124) hx hb dX5_surfacePower_105 (by decide) ?_
              exact W.lret hx hb hr (fun t ht hW => ⟨_, rfl, by rw [sSP, if_pos h8, ix_nI (g := ch) (by omega), if_pos ⟨nI_pos' (by omega), h24, hA1, hB1⟩, if_pos h99], ht⟩) (fun _ h => absurd h List.not_mem_nil) dX5_surfacePower_124
          · refine lv_ldc2 (v := (-9000000000000000001)) hx hb hown (hts (.constantLong RX5 44 (-9000000000000000001)) (by decide +kernel)) dX5_surfacePower_69 ?_
            exact W.lret hx hb hr (fun t ht hW => ⟨_, rfl, by rw [sSP, if_pos h8, ix_nI (g := ch) (by omega), if_neg (fun w => h66 ((hasP_iff (by omega) (by omega)).mpr w.2.2.2))], ht⟩) (fun _ h => absurd h List.not_mem_nil) dX5_surfacePower_72
      · refine lv_ldc2 (v := (-9000000000000000001)) hx hb hown (hts (.constantLong RX5 44 (-9000000000000000001)) (by decide +kernel)) dX5_surfacePower_27 ?_
        exact W.lret hx hb hr (fun t ht hW => ⟨_, rfl, by rw [sSP, if_pos h8, ix_nI (g := ch) (by omega), if_neg (fun w => absurd w.2.1 (by omega))], ht⟩) (fun _ h => absurd h List.not_mem_nil) dX5_surfacePower_30
  · refine lv_ldc2 (v := (-9000000000000000002)) hx hb hown (hts (.constantLong RX5 97 (-9000000000000000002)) (by decide +kernel)) dX5_surfacePower_11 ?_
    exact W.lret hx hb hr (fun t ht hW => ⟨_, rfl, by rw [sSP, if_neg h8], ht⟩) (fun _ h => absurd h List.not_mem_nil) dX5_surfacePower_14

set_option maxHeartbeats 4000000 in
set_option maxRecDepth 100000 in
theorem c_X5_withGlasses (l : Launch) (dC : Nat → ClassId) (dI : Nat → Nat → Nat) (cI cJ : ClassId) (q : Nat → Nat) (G : GL) (n : Nat) (hn : n ≤ 20) (lg lp : Nat → Int32) (k : Nat) (hk : k ≤ 8) (hL : lOK lg k n) (h : Int64) : Met l yX5_withGlasses wsX5_withGlasses ({ frames := 5, cells := 0, slots := 0, locals := 122 }) (va_Pc [.ref (q 0), .long h] (RO (dC, dI) (tyK cI cJ) ([(q 0, .inr (5, [.ref (q 1), .ref (q 3), .ref (q 8), .ref (q 14), .ref (q 17)])), (q 3, .inr (0, [.ref (q 4), .ref (q 5), .ref (q 6), .ref (q 7), .int (nI n)])), (q 4, .inl (cJ, 20, .inr (.inl (gK G)))), (q 5, .inl (cI, 20, .inl (gF G))), (q 6, .inl (cI, 20, .inl (gD G))), (q 7, .inl (cI, 20, .inl (gC G))), (q 14, .inr (3, [.ref (q 15), .ref (q 16), .int (nI k)])), (q 15, .inl (cI, 8, .inl lg)), (q 16, .inl (cI, 8, .inl lp))]))) (vp_Sl (fun r => r = dGls G lg lp k n h)) 0 0 (fun _ => False) := by
  refine Met.ofW (cc := cX5_withGlasses) (maxL := 7) (ret := (some .long)) (by decide) rfl ?_
  intro p e s m args below meth c s₁ B hml hv
  obtain ⟨rfl, hP, hK, hN⟩ := hv
  have hx := B.exec
  have hb := B.bytes
  have hr := B.returns
  have hts := atoms_spec (ws := wsX5_withGlasses) B.pre
  have hown : s.vm.findClass RX5 = some m.cls := findClass_of_methodNamed B.named
  have hlocks := B.notSynchronized
  have hP : va_P (dC, dI) vwCl [(q 0, .inr (5, [.ref (q 1), .ref (q 3), .ref (q 8), .ref (q 14), .ref (q 17)])), (q 3, .inr (0, [.ref (q 4), .ref (q 5), .ref (q 6), .ref (q 7), .int (nI n)])), (q 4, .inl (cJ, 20, .inr (.inl (gK G)))), (q 5, .inl (cI, 20, .inl (gF G))), (q 6, .inl (cI, 20, .inl (gD G))), (q 7, .inl (cI, 20, .inl (gC G))), (q 14, .inr (3, [.ref (q 15), .ref (q 16), .int (nI k)])), (q 15, .inl (cI, 8, .inl lg)), (q 16, .inl (cI, 8, .inl lp))] s.heap := hP
  have hl := lv_entry ([.ref (q 0), .long h]) (n := 7) (Nat.le_of_ble_eq_true rfl)
  rw [lg_entry_eq]
  generalize (lg_sl ([.ref (q 0), .long h]) ++ List.replicate (7 - (lg_sl ([.ref (q 0), .long h])).length) Slot.unset).toArray = ls at hl ⊢
  have hl : lv_has ls 7 [(0, .ref (q 0)), (1, .long h)] := hl
  refine lv_lload_n hx hb dX5_withGlasses_0 rfl (lv_at hl 1 rfl) ?_
  refine lv_aload_n hx hb dX5_withGlasses_1 rfl (lv_at hl 0 rfl) ?_
  refine va_get (D := (dC, dI)) (ci := 5) (v := .ref (q 3)) (C := RX5) (T := TX5) (N := 5) hx hb hts (by decide +kernel) hown hK hP 0 rfl rfl 1 (by decide) (hts (.fieldLink RX5 19 "AchromatDesk" "glasses" "LAchromatDesk$Catalogue;") (by decide +kernel)) (fun _ h9 => h9) rfl dX5_withGlasses_2 ?_
  refine va_getN (D := (dC, dI)) (ci := 0) (v := .int (nI n)) (C := RX0) (T := TX0) (N := 5) hx hb hts (by decide +kernel) hown hK hP 1 rfl rfl 4 (by decide) (va_Nw.use (w := .fieldLinkNest "AchromatDesk" 77 "AchromatDesk$Catalogue" "count" "I" "AchromatDesk") rfl (hN.at 2 rfl)) (fun _ h9 => h9) rfl dX5_withGlasses_5 ?_
  refine lv_i2l (v := lN n) hx hb dX5_withGlasses_8 (nI_l (by omega)) ?_
  refine stSl (As := [.long h, .long (lN n)]) (rest := []) (c_X5_mixed l h (lN n)) ⟨hx, hb, hml, hown, hts⟩ (va_cwS 2 hts gX5_withGlasses_X5_mixed rfl rfl rfl (by decide +kernel) ⟨Nat.le_of_ble_eq_true rfl, Nat.le_of_ble_eq_true rfl⟩) rfl hl.1 rfl (Nat.le_of_ble_eq_true rfl) dX5_withGlasses_9 ⟨Nat.zero_le _, Nat.zero_le _⟩ (fun r hr0 => ?_)
  subst hr0
  refine lv_lstore_n (lv' := [(3, .long (mixL h (lN n))), (0, .ref (q 0)), (1, .long h)]) hx hb dX5_withGlasses_12 rfl hl (by decide) rfl (fun ls hl => ?_)
  refine lv_iconst (v := 0) hx hb dX5_withGlasses_13 (by decide) ?_
  refine lv_istore (lv' := [(5, .int 0), (3, .long (mixL h (lN n))), (0, .ref (q 0)), (1, .long h)]) hx hb dX5_withGlasses_14 hl (by decide) rfl (fun ls hl => ?_)
  refine rloopZ (nL := 7) 0 n (fun g h => dGl G lg lp k n g h) (mixL h (lN n)) (fun k16 z16 => [(5, .int (nI k16)), (3, .long z16), (0, .ref (q 0)), (1, .long h)]) (fun _ _ => True) (by omega) (trivial) (lv_sub hl [0, 1, 2, 3] rfl) (fun k16 z16 hlo16 hk16 hz16 hI16 ls hl ih16 => ?_) (fun z16 hz16 hI16 ls hl => ?_)
  · refine lv_iload hx hb dX5_withGlasses_16 (lv_at hl 0 rfl) ?_
    refine lv_aload_n hx hb dX5_withGlasses_18 rfl (lv_at hl 2 rfl) ?_
    refine va_get (D := (dC, dI)) (ci := 5) (v := .ref (q 3)) (C := RX5) (T := TX5) (N := 5) hx hb hts (by decide +kernel) hown hK hP 0 rfl rfl 1 (by decide) (hts (.fieldLink RX5 19 "AchromatDesk" "glasses" "LAchromatDesk$Catalogue;") (by decide +kernel)) (fun _ h9 => h9) rfl dX5_withGlasses_19 ?_
    refine va_getN (D := (dC, dI)) (ci := 0) (v := .int (nI n)) (C := RX0) (T := TX0) (N := 5) hx hb hts (by decide +kernel) hown hK hP 1 rfl rfl 4 (by decide) (va_Nw.use (w := .fieldLinkNest "AchromatDesk" 77 "AchromatDesk$Catalogue" "count" "I" "AchromatDesk") rfl (hN.at 2 rfl)) (fun _ h9 => h9) rfl dX5_withGlasses_22 ?_
    refine rn_ge (tgt := 106) hx hb k16 n rfl rfl (by omega) (by omega) dX5_withGlasses_25 (by decide) (fun h25 => ?_) (fun h25 => ?_)
    · exfalso; omega
    · refine lv_iconst (v := 0) hx hb dX5_withGlasses_28 (by decide) ?_
      refine lv_istore (lv' := [(6, .int 0), (5, .int (nI k16)), (3, .long z16), (0, .ref (q 0)), (1, .long h)]) hx hb dX5_withGlasses_29 hl (by decide) rfl (fun ls hl => ?_)
      refine rloopZ (nL := 7) 0 3 (fun j h => mixL h (vN G k16 (nI j)).toInt64) z16 (fun k31 z31 => [(6, .int (nI k31)), (5, .int (nI k16)), (3, .long z31), (0, .ref (q 0)), (1, .long h)]) (fun _ _ => True) (by omega) (trivial) (lv_sub hl [0, 1, 2, 3, 4] rfl) (fun k31 z31 hlo31 hk31 hz31 hI31 ls hl ih31 => ?_) (fun z31 hz31 hI31 ls hl => ?_)
      · refine lv_iload hx hb dX5_withGlasses_31 (lv_at hl 0 rfl) ?_
        refine lv_iconst (v := 2) hx hb dX5_withGlasses_33 (by decide) ?_
        refine rn_gt (tgt := 56) hx hb k31 2 rfl rfl (by omega) (by omega) dX5_withGlasses_34 (by decide) (fun h34 => ?_) (fun h34 => ?_)
        · exfalso; omega
        · refine lv_lload_n hx hb dX5_withGlasses_37 rfl (lv_at hl 2 rfl) ?_
          refine lv_aload_n hx hb dX5_withGlasses_38 rfl (lv_at hl 3 rfl) ?_
          refine lv_iload hx hb dX5_withGlasses_39 (lv_at hl 1 rfl) ?_
          refine lv_iload hx hb dX5_withGlasses_41 (lv_at hl 0 rfl) ?_
          refine roVl (As := [.int (nI k16), .int (nI k31)]) (rest := [.long z31]) (c_X5_index l dC dI cI cJ q G n hn (nI k16) (nI k31)) ⟨hx, hb, hml, hown, hts⟩ (cwV 2 hts gX5_withGlasses_X5_index rfl rfl rfl (by decide +kernel) ⟨Nat.le_of_ble_eq_true rfl, Nat.le_of_ble_eq_true rfl⟩) (hP.sub [0, 1, 2, 3, 4, 5] rfl) hK hN (ci := 5) rfl rfl rfl hl.1 rfl (Nat.le_of_ble_eq_true rfl) dX5_withGlasses_43 ⟨Nat.zero_le _, Nat.zero_le _⟩ (fun r hr0 => ?_)
          subst hr0
          refine rw_topl (show (sIndex G n (nI k16) (nI k31) : Int64) = ((vN G k16 (nI k31)).toInt64 : Int64) from by rw [sIndex, if_pos (hasP_nI (by omega) (by omega)), if_pos (isCol_nI (by omega)), ix_nI (by omega)]) ?_
          refine stSl (As := [.long z31, .long ((vN G k16 (nI k31)).toInt64)]) (rest := []) (c_X5_mixed l z31 ((vN G k16 (nI k31)).toInt64)) ⟨hx, hb, hml, hown, hts⟩ (va_cwS 2 hts gX5_withGlasses_X5_mixed rfl rfl rfl (by decide +kernel) ⟨Nat.le_of_ble_eq_true rfl, Nat.le_of_ble_eq_true rfl⟩) rfl hl.1 rfl (Nat.le_of_ble_eq_true rfl) dX5_withGlasses_46 ⟨Nat.zero_le _, Nat.zero_le _⟩ (fun r hr0 => ?_)
          subst hr0
          refine lv_lstore_n (lv' := [(3, .long (mixL z31 ((vN G k16 (nI k31)).toInt64))), (6, .int (nI k31)), (5, .int (nI k16)), (0, .ref (q 0)), (1, .long h)]) hx hb dX5_withGlasses_49 rfl hl (by decide) rfl (fun ls hl => ?_)
          refine lv_iinc (v := nI (k31 + 1)) (lv' := [(6, .int (nI (k31 + 1))), (3, .long (mixL z31 ((vN G k16 (nI k31)).toInt64))), (5, .int (nI k16)), (0, .ref (q 0)), (1, .long h)]) hx hb dX5_withGlasses_50 hl (k := 1) rfl (by first | rfl | exact nI_add _ _) (by decide) rfl (fun ls hl => ?_)
          refine lv_goto (tgt := 31) hx hb dX5_withGlasses_53 (by decide) ?_
          exact ih31 (mixL z31 ((vN G k16 (nI k31)).toInt64)) (rfl) (trivial) ls (lv_sub hl [0, 2, 1, 3, 4] rfl)
      · refine lv_iload hx hb dX5_withGlasses_31 (lv_at hl 0 rfl) ?_
        refine lv_iconst (v := 2) hx hb dX5_withGlasses_33 (by decide) ?_
        refine rn_gt (tgt := 56) hx hb 3 2 rfl rfl (by omega) (by omega) dX5_withGlasses_34 (by decide) (fun h34 => ?_) (fun h34 => ?_)
        · refine lv_lload_n hx hb dX5_withGlasses_56 rfl (lv_at hl 2 rfl) ?_
          refine lv_aload_n hx hb dX5_withGlasses_57 rfl (lv_at hl 3 rfl) ?_
          refine lv_iload hx hb dX5_withGlasses_58 (lv_at hl 1 rfl) ?_
          refine roVl (As := [.int (nI k16)]) (rest := [.long z31]) (c_X5_placeByName l dC dI cI cJ q G n hn (nI k16)) ⟨hx, hb, hml, hown, hts⟩ (cwV 1 hts gX5_withGlasses_X5_placeByName rfl rfl rfl (by decide +kernel) ⟨Nat.le_of_ble_eq_true rfl, Nat.le_of_ble_eq_true rfl⟩) (hP.sub [0, 1, 2, 3, 4, 5] rfl) hK hN (ci := 5) rfl rfl rfl hl.1 rfl (Nat.le_of_ble_eq_true rfl) dX5_withGlasses_60 ⟨Nat.zero_le _, Nat.zero_le _⟩ (fun r hr0 => ?_)
          subst hr0
          refine rw_topl (show (sPlace G n (nI k16) : Int64) = (lN (nBef (gK G) k16 n) : Int64) from by rw [sPlace, if_pos (hasP_nI (by omega) (by omega)), ix_nI (by omega)]) ?_
          refine stSl (As := [.long z31, .long (lN (nBef (gK G) k16 n))]) (rest := []) (c_X5_mixed l z31 (lN (nBef (gK G) k16 n))) ⟨hx, hb, hml, hown, hts⟩ (va_cwS 2 hts gX5_withGlasses_X5_mixed rfl rfl rfl (by decide +kernel) ⟨Nat.le_of_ble_eq_true rfl, Nat.le_of_ble_eq_true rfl⟩) rfl hl.1 rfl (Nat.le_of_ble_eq_true rfl) dX5_withGlasses_63 ⟨Nat.zero_le _, Nat.zero_le _⟩ (fun r hr0 => ?_)
          subst hr0
          refine lv_lstore_n (lv' := [(3, .long (mixL z31 (lN (nBef (gK G) k16 n)))), (6, .int (nI 3)), (5, .int (nI k16)), (0, .ref (q 0)), (1, .long h)]) hx hb dX5_withGlasses_66 rfl hl (by decide) rfl (fun ls hl => ?_)
          refine lv_lload_n hx hb dX5_withGlasses_67 rfl (lv_at hl 0 rfl) ?_
          refine lv_aload_n hx hb dX5_withGlasses_68 rfl (lv_at hl 3 rfl) ?_
          refine lv_iload hx hb dX5_withGlasses_69 (lv_at hl 2 rfl) ?_
          refine roVl (As := [.int (nI k16)]) (rest := [.long (mixL z31 (lN (nBef (gK G) k16 n)))]) (c_X5_abbe l dC dI cI cJ q G n hn (nI k16)) ⟨hx, hb, hml, hown, hts⟩ (cwV 1 hts gX5_withGlasses_X5_abbe rfl rfl rfl (by decide +kernel) ⟨Nat.le_of_ble_eq_true rfl, Nat.le_of_ble_eq_true rfl⟩) (hP.sub [0, 1, 2, 3, 4, 5] rfl) hK hN (ci := 5) rfl rfl rfl hl.1 rfl (Nat.le_of_ble_eq_true rfl) dX5_withGlasses_71 ⟨Nat.zero_le _, Nat.zero_le _⟩ (fun r hr0 => ?_)
          subst hr0
          refine rw_topl (show (sAbbe G n (nI k16) : Int64) = (vAbb G k16 : Int64) from by rw [sAbbe, if_pos (hasP_nI (by omega) (by omega)), ix_nI (by omega)]) ?_
          refine stSl (As := [.long (mixL z31 (lN (nBef (gK G) k16 n))), .long (vAbb G k16)]) (rest := []) (c_X5_mixed l (mixL z31 (lN (nBef (gK G) k16 n))) (vAbb G k16)) ⟨hx, hb, hml, hown, hts⟩ (va_cwS 2 hts gX5_withGlasses_X5_mixed rfl rfl rfl (by decide +kernel) ⟨Nat.le_of_ble_eq_true rfl, Nat.le_of_ble_eq_true rfl⟩) rfl hl.1 rfl (Nat.le_of_ble_eq_true rfl) dX5_withGlasses_74 ⟨Nat.zero_le _, Nat.zero_le _⟩ (fun r hr0 => ?_)
          subst hr0
          refine lv_lstore_n (lv' := [(3, .long (mixL (mixL z31 (lN (nBef (gK G) k16 n))) (vAbb G k16))), (6, .int (nI 3)), (5, .int (nI k16)), (0, .ref (q 0)), (1, .long h)]) hx hb dX5_withGlasses_77 rfl hl (by decide) rfl (fun ls hl => ?_)
          refine lv_lload_n hx hb dX5_withGlasses_78 rfl (lv_at hl 0 rfl) ?_
          refine lv_aload_n hx hb dX5_withGlasses_79 rfl (lv_at hl 3 rfl) ?_
          refine lv_iload hx hb dX5_withGlasses_80 (lv_at hl 2 rfl) ?_
          refine roVl (As := [.int (nI k16)]) (rest := [.long (mixL (mixL z31 (lN (nBef (gK G) k16 n))) (vAbb G k16))]) (c_X5_partial l dC dI cI cJ q G n hn (nI k16)) ⟨hx, hb, hml, hown, hts⟩ (cwV 1 hts gX5_withGlasses_X5_partial rfl rfl rfl (by decide +kernel) ⟨Nat.le_of_ble_eq_true rfl, Nat.le_of_ble_eq_true rfl⟩) (hP.sub [0, 1, 2, 3, 4, 5] rfl) hK hN (ci := 5) rfl rfl rfl hl.1 rfl (Nat.le_of_ble_eq_true rfl) dX5_withGlasses_82 ⟨Nat.zero_le _, Nat.zero_le _⟩ (fun r hr0 => ?_)
          subst hr0
          refine rw_topl (show (sPart G n (nI k16) : Int64) = (vPar G k16 : Int64) from by rw [sPart, if_pos (hasP_nI (by omega) (by omega)), ix_nI (by omega)]) ?_
          refine stSl (As := [.long (mixL (mixL z31 (lN (nBef (gK G) k16 n))) (vAbb G k16)), .long (vPar G k16)]) (rest := []) (c_X5_mixed l (mixL (mixL z31 (lN (nBef (gK G) k16 n))) (vAbb G k16)) (vPar G k16)) ⟨hx, hb, hml, hown, hts⟩ (va_cwS 2 hts gX5_withGlasses_X5_mixed rfl rfl rfl (by decide +kernel) ⟨Nat.le_of_ble_eq_true rfl, Nat.le_of_ble_eq_true rfl⟩) rfl hl.1 rfl (Nat.le_of_ble_eq_true rfl) dX5_withGlasses_85 ⟨Nat.zero_le _, Nat.zero_le _⟩ (fun r hr0 => ?_)
          subst hr0
          refine lv_lstore_n (lv' := [(3, .long (mixL (mixL (mixL z31 (lN (nBef (gK G) k16 n))) (vAbb G k16)) (vPar G k16))), (6, .int (nI 3)), (5, .int (nI k16)), (0, .ref (q 0)), (1, .long h)]) hx hb dX5_withGlasses_88 rfl hl (by decide) rfl (fun ls hl => ?_)
          refine lv_lload_n hx hb dX5_withGlasses_89 rfl (lv_at hl 0 rfl) ?_
          refine lv_aload_n hx hb dX5_withGlasses_90 rfl (lv_at hl 3 rfl) ?_
          refine lv_iload hx hb dX5_withGlasses_91 (lv_at hl 2 rfl) ?_
          refine roVl (As := [.int (nI k16)]) (rest := [.long (mixL (mixL (mixL z31 (lN (nBef (gK G) k16 n))) (vAbb G k16)) (vPar G k16))]) (c_X5_balancePower l dC dI cI cJ q G n hn lg lp k hk hL (nI k16)) ⟨hx, hb, hml, hown, hts⟩ (cwV 1 hts gX5_withGlasses_X5_balancePower rfl rfl rfl (by decide +kernel) ⟨Nat.le_of_ble_eq_true rfl, Nat.le_of_ble_eq_true rfl⟩) (hP.sub [0, 1, 2, 3, 4, 5, 6, 7, 8] rfl) hK hN (ci := 5) rfl rfl rfl hl.1 rfl (Nat.le_of_ble_eq_true rfl) dX5_withGlasses_93 ⟨Nat.zero_le _, Nat.zero_le _⟩ (fun r hr0 => ?_)
          subst hr0
          refine rw_topl (show (sBal G lg lp k n (nI k16) : Int64) = (vBal G lg lp k k16 : Int64) from by rw [sBal, if_pos (hasP_nI (by omega) (by omega)), ix_nI (by omega)]) ?_
          refine stSl (As := [.long (mixL (mixL (mixL z31 (lN (nBef (gK G) k16 n))) (vAbb G k16)) (vPar G k16)), .long (vBal G lg lp k k16)]) (rest := []) (c_X5_mixed l (mixL (mixL (mixL z31 (lN (nBef (gK G) k16 n))) (vAbb G k16)) (vPar G k16)) (vBal G lg lp k k16)) ⟨hx, hb, hml, hown, hts⟩ (va_cwS 2 hts gX5_withGlasses_X5_mixed rfl rfl rfl (by decide +kernel) ⟨Nat.le_of_ble_eq_true rfl, Nat.le_of_ble_eq_true rfl⟩) rfl hl.1 rfl (Nat.le_of_ble_eq_true rfl) dX5_withGlasses_96 ⟨Nat.zero_le _, Nat.zero_le _⟩ (fun r hr0 => ?_)
          subst hr0
          refine lv_lstore_n (lv' := [(3, .long (mixL (mixL (mixL (mixL z31 (lN (nBef (gK G) k16 n))) (vAbb G k16)) (vPar G k16)) (vBal G lg lp k k16))), (6, .int (nI 3)), (5, .int (nI k16)), (0, .ref (q 0)), (1, .long h)]) hx hb dX5_withGlasses_99 rfl hl (by decide) rfl (fun ls hl => ?_)
          refine lv_iinc (v := nI (k16 + 1)) (lv' := [(5, .int (nI (k16 + 1))), (3, .long (mixL (mixL (mixL (mixL z31 (lN (nBef (gK G) k16 n))) (vAbb G k16)) (vPar G k16)) (vBal G lg lp k k16))), (6, .int (nI 3)), (0, .ref (q 0)), (1, .long h)]) hx hb dX5_withGlasses_100 hl (k := 2) rfl (by first | rfl | exact nI_add _ _) (by decide) rfl (fun ls hl => ?_)
          refine lv_goto (tgt := 16) hx hb dX5_withGlasses_103 (by decide) ?_
          exact ih16 (mixL (mixL (mixL (mixL z31 (lN (nBef (gK G) k16 n))) (vAbb G k16)) (vPar G k16)) (vBal G lg lp k k16)) (by rw [hz31, dCol]; rfl) (trivial) ls (lv_sub hl [0, 1, 3, 4] rfl)
        · exfalso; omega
  · refine lv_iload hx hb dX5_withGlasses_16 (lv_at hl 0 rfl) ?_
    refine lv_aload_n hx hb dX5_withGlasses_18 rfl (lv_at hl 2 rfl) ?_
    refine va_get (D := (dC, dI)) (ci := 5) (v := .ref (q 3)) (C := RX5) (T := TX5) (N := 5) hx hb hts (by decide +kernel) hown hK hP 0 rfl rfl 1 (by decide) (hts (.fieldLink RX5 19 "AchromatDesk" "glasses" "LAchromatDesk$Catalogue;") (by decide +kernel)) (fun _ h9 => h9) rfl dX5_withGlasses_19 ?_
    refine va_getN (D := (dC, dI)) (ci := 0) (v := .int (nI n)) (C := RX0) (T := TX0) (N := 5) hx hb hts (by decide +kernel) hown hK hP 1 rfl rfl 4 (by decide) (va_Nw.use (w := .fieldLinkNest "AchromatDesk" 77 "AchromatDesk$Catalogue" "count" "I" "AchromatDesk") rfl (hN.at 2 rfl)) (fun _ h9 => h9) rfl dX5_withGlasses_22 ?_
    refine rn_ge (tgt := 106) hx hb n n rfl rfl (by omega) (by omega) dX5_withGlasses_25 (by decide) (fun h25 => ?_) (fun h25 => ?_)
    · refine lv_lload_n hx hb dX5_withGlasses_106 rfl (lv_at hl 1 rfl) ?_
      exact W.lret hx hb hr (fun t ht hW => ⟨_, rfl, by rw [hz16]; rfl, ht⟩) (fun _ h => absurd h List.not_mem_nil) dX5_withGlasses_107
    · exfalso; omega

set_option maxHeartbeats 4000000 in
set_option maxRecDepth 100000 in
theorem c_X5_withLenses (l : Launch) (dC : Nat → ClassId) (dI : Nat → Nat → Nat) (cI cJ : ClassId) (q : Nat → Nat) (G : GL) (n : Nat) (hn : n ≤ 20) (lg lp : Nat → Int32) (k : Nat) (hk : k ≤ 8) (rd : Nat → Int32) (np : Nat) (hp : np ≤ 16) (hL : lOK lg k n) (h : Int64) : Met l yX5_withLenses wsX5_withLenses ({ frames := 5, cells := 0, slots := 0, locals := 120 }) (va_Pc [.ref (q 0), .long h] (RO (dC, dI) (tyK cI cJ) ([(q 0, .inr (5, [.ref (q 1), .ref (q 3), .ref (q 8), .ref (q 14), .ref (q 17)])), (q 3, .inr (0, [.ref (q 4), .ref (q 5), .ref (q 6), .ref (q 7), .int (nI n)])), (q 4, .inl (cJ, 20, .inr (.inl (gK G)))), (q 5, .inl (cI, 20, .inl (gF G))), (q 6, .inl (cI, 20, .inl (gD G))), (q 7, .inl (cI, 20, .inl (gC G))), (q 14, .inr (3, [.ref (q 15), .ref (q 16), .int (nI k)])), (q 15, .inl (cI, 8, .inl lg)), (q 16, .inl (cI, 8, .inl lp)), (q 17, .inr (4, [.ref (q 18), .int (nI np)])), (q 18, .inl (cI, 16, .inl rd))]))) (vp_Sl (fun r => r = dLns G lg lp k rd np h)) 0 0 (fun _ => False) := by
  refine Met.ofW (cc := cX5_withLenses) (maxL := 6) (ret := (some .long)) (by decide) rfl ?_
  intro p e s m args below meth c s₁ B hml hv
  obtain ⟨rfl, hP, hK, hN⟩ := hv
  have hx := B.exec
  have hb := B.bytes
  have hr := B.returns
  have hts := atoms_spec (ws := wsX5_withLenses) B.pre
  have hown : s.vm.findClass RX5 = some m.cls := findClass_of_methodNamed B.named
  have hlocks := B.notSynchronized
  have hP : va_P (dC, dI) vwCl [(q 0, .inr (5, [.ref (q 1), .ref (q 3), .ref (q 8), .ref (q 14), .ref (q 17)])), (q 3, .inr (0, [.ref (q 4), .ref (q 5), .ref (q 6), .ref (q 7), .int (nI n)])), (q 4, .inl (cJ, 20, .inr (.inl (gK G)))), (q 5, .inl (cI, 20, .inl (gF G))), (q 6, .inl (cI, 20, .inl (gD G))), (q 7, .inl (cI, 20, .inl (gC G))), (q 14, .inr (3, [.ref (q 15), .ref (q 16), .int (nI k)])), (q 15, .inl (cI, 8, .inl lg)), (q 16, .inl (cI, 8, .inl lp)), (q 17, .inr (4, [.ref (q 18), .int (nI np)])), (q 18, .inl (cI, 16, .inl rd))] s.heap := hP
  have hl := lv_entry ([.ref (q 0), .long h]) (n := 6) (Nat.le_of_ble_eq_true rfl)
  rw [lg_entry_eq]
  generalize (lg_sl ([.ref (q 0), .long h]) ++ List.replicate (6 - (lg_sl ([.ref (q 0), .long h])).length) Slot.unset).toArray = ls at hl ⊢
  have hl : lv_has ls 6 [(0, .ref (q 0)), (1, .long h)] := hl
  refine lv_lload_n hx hb dX5_withLenses_0 rfl (lv_at hl 1 rfl) ?_
  refine lv_aload_n hx hb dX5_withLenses_1 rfl (lv_at hl 0 rfl) ?_
  refine va_get (D := (dC, dI)) (ci := 5) (v := .ref (q 14)) (C := RX5) (T := TX5) (N := 5) hx hb hts (by decide +kernel) hown hK hP 0 rfl rfl 3 (by decide) (hts (.fieldLink RX5 33 "AchromatDesk" "system" "LAchromatDesk$LensSystem;") (by decide +kernel)) (fun _ h9 => h9) rfl dX5_withLenses_2 ?_
  refine va_getN (D := (dC, dI)) (ci := 3) (v := .int (nI k)) (C := RX3) (T := TX3) (N := 3) hx hb hts (by decide +kernel) hown hK hP 6 rfl rfl 2 (by decide) (va_Nw.use (w := .fieldLinkNest "AchromatDesk" 178 "AchromatDesk$LensSystem" "count" "I" "AchromatDesk") rfl (hN.at 4 rfl)) (fun _ h9 => h9) rfl dX5_withLenses_5 ?_
  refine lv_i2l (v := lN k) hx hb dX5_withLenses_8 (nI_l (by omega)) ?_
  refine stSl (As := [.long h, .long (lN k)]) (rest := []) (c_X5_mixed l h (lN k)) ⟨hx, hb, hml, hown, hts⟩ (va_cwS 2 hts gX5_withLenses_X5_mixed rfl rfl rfl (by decide +kernel) ⟨Nat.le_of_ble_eq_true rfl, Nat.le_of_ble_eq_true rfl⟩) rfl hl.1 rfl (Nat.le_of_ble_eq_true rfl) dX5_withLenses_9 ⟨Nat.zero_le _, Nat.zero_le _⟩ (fun r hr0 => ?_)
  subst hr0
  refine lv_lstore_n (lv' := [(3, .long (mixL h (lN k))), (0, .ref (q 0)), (1, .long h)]) hx hb dX5_withLenses_12 rfl hl (by decide) rfl (fun ls hl => ?_)
  refine lv_iconst (v := 0) hx hb dX5_withLenses_13 (by decide) ?_
  refine lv_istore (lv' := [(5, .int 0), (3, .long (mixL h (lN k))), (0, .ref (q 0)), (1, .long h)]) hx hb dX5_withLenses_14 hl (by decide) rfl (fun ls hl => ?_)
  refine rloopZ (nL := 6) 0 k (fun j h => dLn G lg lp rd np j h) (mixL h (lN k)) (fun k16 z16 => [(5, .int (nI k16)), (3, .long z16), (0, .ref (q 0)), (1, .long h)]) (fun _ _ => True) (by omega) (trivial) (lv_sub hl [0, 1, 2, 3] rfl) (fun k16 z16 hlo16 hk16 hz16 hI16 ls hl ih16 => ?_) (fun z16 hz16 hI16 ls hl => ?_)
  · refine lv_iload hx hb dX5_withLenses_16 (lv_at hl 0 rfl) ?_
    refine lv_aload_n hx hb dX5_withLenses_18 rfl (lv_at hl 2 rfl) ?_
    refine va_get (D := (dC, dI)) (ci := 5) (v := .ref (q 14)) (C := RX5) (T := TX5) (N := 5) hx hb hts (by decide +kernel) hown hK hP 0 rfl rfl 3 (by decide) (hts (.fieldLink RX5 33 "AchromatDesk" "system" "LAchromatDesk$LensSystem;") (by decide +kernel)) (fun _ h9 => h9) rfl dX5_withLenses_19 ?_
    refine va_getN (D := (dC, dI)) (ci := 3) (v := .int (nI k)) (C := RX3) (T := TX3) (N := 3) hx hb hts (by decide +kernel) hown hK hP 6 rfl rfl 2 (by decide) (va_Nw.use (w := .fieldLinkNest "AchromatDesk" 178 "AchromatDesk$LensSystem" "count" "I" "AchromatDesk") rfl (hN.at 4 rfl)) (fun _ h9 => h9) rfl dX5_withLenses_22 ?_
    refine rn_ge (tgt := 75) hx hb k16 k rfl rfl (by omega) (by omega) dX5_withLenses_25 (by decide) (fun h25 => ?_) (fun h25 => ?_)
    · exfalso; omega
    · refine lv_lload_n hx hb dX5_withLenses_28 rfl (lv_at hl 1 rfl) ?_
      refine lv_aload_n hx hb dX5_withLenses_29 rfl (lv_at hl 2 rfl) ?_
      refine va_get (D := (dC, dI)) (ci := 5) (v := .ref (q 14)) (C := RX5) (T := TX5) (N := 5) hx hb hts (by decide +kernel) hown hK hP 0 rfl rfl 3 (by decide) (hts (.fieldLink RX5 33 "AchromatDesk" "system" "LAchromatDesk$LensSystem;") (by decide +kernel)) (fun _ h9 => h9) rfl dX5_withLenses_30 ?_
      refine lv_iload hx hb dX5_withLenses_33 (lv_at hl 0 rfl) ?_
      refine roVi (As := [.int (nI k16)]) (rest := [.long z16]) (c_X3_glassOf l dC dI cI cJ q lg lp k hk k16 (by omega)) ⟨hx, hb, hml, hown, hts⟩ (cwV 1 hts gX5_withLenses_X3_glassOf rfl rfl rfl (by decide +kernel) ⟨Nat.le_of_ble_eq_true rfl, Nat.le_of_ble_eq_true rfl⟩) (hP.sub [6, 7, 8] rfl) hK hN (ci := 3) rfl rfl rfl hl.1 rfl (Nat.le_of_ble_eq_true rfl) dX5_withLenses_35 ⟨Nat.zero_le _, Nat.zero_le _⟩ (fun r hr0 => ?_)
      subst hr0
      refine lv_i2l (v := (lg k16).toInt64) hx hb dX5_withLenses_38 rfl ?_
      refine stSl (As := [.long z16, .long ((lg k16).toInt64)]) (rest := []) (c_X5_mixed l z16 ((lg k16).toInt64)) ⟨hx, hb, hml, hown, hts⟩ (va_cwS 2 hts gX5_withLenses_X5_mixed rfl rfl rfl (by decide +kernel) ⟨Nat.le_of_ble_eq_true rfl, Nat.le_of_ble_eq_true rfl⟩) rfl hl.1 rfl (Nat.le_of_ble_eq_true rfl) dX5_withLenses_39 ⟨Nat.zero_le _, Nat.zero_le _⟩ (fun r hr0 => ?_)
      subst hr0
      refine lv_lstore_n (lv' := [(3, .long (mixL z16 ((lg k16).toInt64))), (5, .int (nI k16)), (0, .ref (q 0)), (1, .long h)]) hx hb dX5_withLenses_42 rfl hl (by decide) rfl (fun ls hl => ?_)
      refine lv_lload_n hx hb dX5_withLenses_43 rfl (lv_at hl 0 rfl) ?_
      refine lv_aload_n hx hb dX5_withLenses_44 rfl (lv_at hl 2 rfl) ?_
      refine va_get (D := (dC, dI)) (ci := 5) (v := .ref (q 14)) (C := RX5) (T := TX5) (N := 5) hx hb hts (by decide +kernel) hown hK hP 0 rfl rfl 3 (by decide) (hts (.fieldLink RX5 33 "AchromatDesk" "system" "LAchromatDesk$LensSystem;") (by decide +kernel)) (fun _ h9 => h9) rfl dX5_withLenses_45 ?_
      refine lv_iload hx hb dX5_withLenses_48 (lv_at hl 1 rfl) ?_
      refine roVi (As := [.int (nI k16)]) (rest := [.long (mixL z16 ((lg k16).toInt64))]) (c_X3_powerOf l dC dI cI cJ q lg lp k hk k16 (by omega)) ⟨hx, hb, hml, hown, hts⟩ (cwV 1 hts gX5_withLenses_X3_powerOf rfl rfl rfl (by decide +kernel) ⟨Nat.le_of_ble_eq_true rfl, Nat.le_of_ble_eq_true rfl⟩) (hP.sub [6, 7, 8] rfl) hK hN (ci := 3) rfl rfl rfl hl.1 rfl (Nat.le_of_ble_eq_true rfl) dX5_withLenses_50 ⟨Nat.zero_le _, Nat.zero_le _⟩ (fun r hr0 => ?_)
      subst hr0
      refine lv_i2l (v := (lp k16).toInt64) hx hb dX5_withLenses_53 rfl ?_
      refine stSl (As := [.long (mixL z16 ((lg k16).toInt64)), .long ((lp k16).toInt64)]) (rest := []) (c_X5_mixed l (mixL z16 ((lg k16).toInt64)) ((lp k16).toInt64)) ⟨hx, hb, hml, hown, hts⟩ (va_cwS 2 hts gX5_withLenses_X5_mixed rfl rfl rfl (by decide +kernel) ⟨Nat.le_of_ble_eq_true rfl, Nat.le_of_ble_eq_true rfl⟩) rfl hl.1 rfl (Nat.le_of_ble_eq_true rfl) dX5_withLenses_54 ⟨Nat.zero_le _, Nat.zero_le _⟩ (fun r hr0 => ?_)
      subst hr0
      refine lv_lstore_n (lv' := [(3, .long (mixL (mixL z16 ((lg k16).toInt64)) ((lp k16).toInt64))), (5, .int (nI k16)), (0, .ref (q 0)), (1, .long h)]) hx hb dX5_withLenses_57 rfl hl (by decide) rfl (fun ls hl => ?_)
      refine lv_lload_n hx hb dX5_withLenses_58 rfl (lv_at hl 0 rfl) ?_
      refine lv_aload_n hx hb dX5_withLenses_59 rfl (lv_at hl 2 rfl) ?_
      refine lv_iload hx hb dX5_withLenses_60 (lv_at hl 1 rfl) ?_
      refine roVl (As := [.int (nI k16)]) (rest := [.long (mixL (mixL z16 ((lg k16).toInt64)) ((lp k16).toInt64))]) (c_X5_bestSurfaces l dC dI cI cJ q G n hn lg lp k hk rd np hp hL (nI k16)) ⟨hx, hb, hml, hown, hts⟩ (cwV 1 hts gX5_withLenses_X5_bestSurfaces rfl rfl rfl (by decide +kernel) ⟨Nat.le_of_ble_eq_true rfl, Nat.le_of_ble_eq_true rfl⟩) (hP.sub [0, 1, 2, 3, 4, 5, 6, 7, 8, 9, 10] rfl) hK hN (ci := 5) rfl rfl rfl hl.1 rfl (Nat.le_of_ble_eq_true rfl) dX5_withLenses_62 ⟨Nat.zero_le _, Nat.zero_le _⟩ (fun r hr0 => ?_)
      subst hr0
      refine rw_topl (show (sBS G lg lp k rd np (nI k16) : Int64) = (vBS G lg lp rd np k16 : Int64) from by rw [sBS, if_pos (hasP_nI (by omega) (by omega)), ix_nI (by omega)]) ?_
      refine stSl (As := [.long (mixL (mixL z16 ((lg k16).toInt64)) ((lp k16).toInt64)), .long (vBS G lg lp rd np k16)]) (rest := []) (c_X5_mixed l (mixL (mixL z16 ((lg k16).toInt64)) ((lp k16).toInt64)) (vBS G lg lp rd np k16)) ⟨hx, hb, hml, hown, hts⟩ (va_cwS 2 hts gX5_withLenses_X5_mixed rfl rfl rfl (by decide +kernel) ⟨Nat.le_of_ble_eq_true rfl, Nat.le_of_ble_eq_true rfl⟩) rfl hl.1 rfl (Nat.le_of_ble_eq_true rfl) dX5_withLenses_65 ⟨Nat.zero_le _, Nat.zero_le _⟩ (fun r hr0 => ?_)
      subst hr0
      refine lv_lstore_n (lv' := [(3, .long (mixL (mixL (mixL z16 ((lg k16).toInt64)) ((lp k16).toInt64)) (vBS G lg lp rd np k16))), (5, .int (nI k16)), (0, .ref (q 0)), (1, .long h)]) hx hb dX5_withLenses_68 rfl hl (by decide) rfl (fun ls hl => ?_)
      refine lv_iinc (v := nI (k16 + 1)) (lv' := [(5, .int (nI (k16 + 1))), (3, .long (mixL (mixL (mixL z16 ((lg k16).toInt64)) ((lp k16).toInt64)) (vBS G lg lp rd np k16))), (0, .ref (q 0)), (1, .long h)]) hx hb dX5_withLenses_69 hl (k := 1) rfl (by first | rfl | exact nI_add _ _) (by decide) rfl (fun ls hl => ?_)
      refine lv_goto (tgt := 16) hx hb dX5_withLenses_72 (by decide) ?_
      exact ih16 (mixL (mixL (mixL z16 ((lg k16).toInt64)) ((lp k16).toInt64)) (vBS G lg lp rd np k16)) (rfl) (trivial) ls (lv_sub hl [0, 1, 2, 3] rfl)
  · refine lv_iload hx hb dX5_withLenses_16 (lv_at hl 0 rfl) ?_
    refine lv_aload_n hx hb dX5_withLenses_18 rfl (lv_at hl 2 rfl) ?_
    refine va_get (D := (dC, dI)) (ci := 5) (v := .ref (q 14)) (C := RX5) (T := TX5) (N := 5) hx hb hts (by decide +kernel) hown hK hP 0 rfl rfl 3 (by decide) (hts (.fieldLink RX5 33 "AchromatDesk" "system" "LAchromatDesk$LensSystem;") (by decide +kernel)) (fun _ h9 => h9) rfl dX5_withLenses_19 ?_
    refine va_getN (D := (dC, dI)) (ci := 3) (v := .int (nI k)) (C := RX3) (T := TX3) (N := 3) hx hb hts (by decide +kernel) hown hK hP 6 rfl rfl 2 (by decide) (va_Nw.use (w := .fieldLinkNest "AchromatDesk" 178 "AchromatDesk$LensSystem" "count" "I" "AchromatDesk") rfl (hN.at 4 rfl)) (fun _ h9 => h9) rfl dX5_withLenses_22 ?_
    refine rn_ge (tgt := 75) hx hb k k rfl rfl (by omega) (by omega) dX5_withLenses_25 (by decide) (fun h25 => ?_) (fun h25 => ?_)
    · refine lv_iconst (v := 0) hx hb dX5_withLenses_75 (by decide) ?_
      refine lv_istore (lv' := [(5, .int 0), (3, .long z16), (0, .ref (q 0)), (1, .long h)]) hx hb dX5_withLenses_76 hl (by decide) rfl (fun ls hl => ?_)
      refine rloopZ (nL := 6) 0 3 (fun j h => mixL h (vP G lg lp (nI j) k)) z16 (fun k78 z78 => [(5, .int (nI k78)), (3, .long z78), (0, .ref (q 0)), (1, .long h)]) (fun _ _ => True) (by omega) (trivial) (lv_sub hl [0, 1, 2, 3] rfl) (fun k78 z78 hlo78 hk78 hz78 hI78 ls hl ih78 => ?_) (fun z78 hz78 hI78 ls hl => ?_)
      · refine lv_iload hx hb dX5_withLenses_78 (lv_at hl 0 rfl) ?_
        refine lv_iconst (v := 2) hx hb dX5_withLenses_80 (by decide) ?_
        refine rn_gt (tgt := 101) hx hb k78 2 rfl rfl (by omega) (by omega) dX5_withLenses_81 (by decide) (fun h81 => ?_) (fun h81 => ?_)
        · exfalso; omega
        · refine lv_lload_n hx hb dX5_withLenses_84 rfl (lv_at hl 1 rfl) ?_
          refine lv_aload_n hx hb dX5_withLenses_85 rfl (lv_at hl 2 rfl) ?_
          refine lv_iload hx hb dX5_withLenses_86 (lv_at hl 0 rfl) ?_
          refine roVl (As := [.int (nI k78)]) (rest := [.long z78]) (c_X5_systemPower l dC dI cI cJ q G n hn lg lp k hk hL (nI k78)) ⟨hx, hb, hml, hown, hts⟩ (cwV 1 hts gX5_withLenses_X5_systemPower rfl rfl rfl (by decide +kernel) ⟨Nat.le_of_ble_eq_true rfl, Nat.le_of_ble_eq_true rfl⟩) (hP.sub [0, 1, 2, 3, 4, 5, 6, 7, 8] rfl) hK hN (ci := 5) rfl rfl rfl hl.1 rfl (Nat.le_of_ble_eq_true rfl) dX5_withLenses_88 ⟨Nat.zero_le _, Nat.zero_le _⟩ (fun r hr0 => ?_)
          subst hr0
          refine rw_topl (show (sSys G lg lp k (nI k78) : Int64) = (vP G lg lp (nI k78) k : Int64) from by rw [sSys, if_pos (isCol_nI (by omega))]) ?_
          refine stSl (As := [.long z78, .long (vP G lg lp (nI k78) k)]) (rest := []) (c_X5_mixed l z78 (vP G lg lp (nI k78) k)) ⟨hx, hb, hml, hown, hts⟩ (va_cwS 2 hts gX5_withLenses_X5_mixed rfl rfl rfl (by decide +kernel) ⟨Nat.le_of_ble_eq_true rfl, Nat.le_of_ble_eq_true rfl⟩) rfl hl.1 rfl (Nat.le_of_ble_eq_true rfl) dX5_withLenses_91 ⟨Nat.zero_le _, Nat.zero_le _⟩ (fun r hr0 => ?_)
          subst hr0
          refine lv_lstore_n (lv' := [(3, .long (mixL z78 (vP G lg lp (nI k78) k))), (5, .int (nI k78)), (0, .ref (q 0)), (1, .long h)]) hx hb dX5_withLenses_94 rfl hl (by decide) rfl (fun ls hl => ?_)
          refine lv_iinc (v := nI (k78 + 1)) (lv' := [(5, .int (nI (k78 + 1))), (3, .long (mixL z78 (vP G lg lp (nI k78) k))), (0, .ref (q 0)), (1, .long h)]) hx hb dX5_withLenses_95 hl (k := 1) rfl (by first | rfl | exact nI_add _ _) (by decide) rfl (fun ls hl => ?_)
          refine lv_goto (tgt := 78) hx hb dX5_withLenses_98 (by decide) ?_
          exact ih78 (mixL z78 (vP G lg lp (nI k78) k)) (rfl) (trivial) ls (lv_sub hl [0, 1, 2, 3] rfl)
      · refine lv_iload hx hb dX5_withLenses_78 (lv_at hl 0 rfl) ?_
        refine lv_iconst (v := 2) hx hb dX5_withLenses_80 (by decide) ?_
        refine rn_gt (tgt := 101) hx hb 3 2 rfl rfl (by omega) (by omega) dX5_withLenses_81 (by decide) (fun h81 => ?_) (fun h81 => ?_)
        · refine lv_lload_n hx hb dX5_withLenses_101 rfl (lv_at hl 1 rfl) ?_
          exact W.lret hx hb hr (fun t ht hW => ⟨_, rfl, by rw [hz78, dSys, hz16]; rfl, ht⟩) (fun _ h => absurd h List.not_mem_nil) dX5_withLenses_102
        · exfalso; omega
    · exfalso; omega

set_option maxHeartbeats 4000000 in
set_option maxRecDepth 100000 in
theorem c_X5_withPlates (l : Launch) (dC : Nat → ClassId) (dI : Nat → Nat → Nat) (cI cJ : ClassId) (q : Nat → Nat) (rd : Nat → Int32) (np : Nat) (hp : np ≤ 16) (h : Int64) : Met l yX5_withPlates wsX5_withPlates ({ frames := 1, cells := 0, slots := 0, locals := 23 }) (va_Pc [.ref (q 0), .long h] (RO (dC, dI) (tyK cI cJ) ([(q 0, .inr (5, [.ref (q 1), .ref (q 3), .ref (q 8), .ref (q 14), .ref (q 17)])), (q 17, .inr (4, [.ref (q 18), .int (nI np)])), (q 18, .inl (cI, 16, .inl rd))]))) (vp_Sl (fun r => r = dPls rd np h)) 0 0 (fun _ => False) := by
  refine Met.ofW (cc := cX5_withPlates) (maxL := 6) (ret := (some .long)) (by decide) rfl ?_
  intro p e s m args below meth c s₁ B hml hv
  obtain ⟨rfl, hP, hK, hN⟩ := hv
  have hx := B.exec
  have hb := B.bytes
  have hr := B.returns
  have hts := atoms_spec (ws := wsX5_withPlates) B.pre
  have hown : s.vm.findClass RX5 = some m.cls := findClass_of_methodNamed B.named
  have hlocks := B.notSynchronized
  have hP : va_P (dC, dI) vwCl [(q 0, .inr (5, [.ref (q 1), .ref (q 3), .ref (q 8), .ref (q 14), .ref (q 17)])), (q 17, .inr (4, [.ref (q 18), .int (nI np)])), (q 18, .inl (cI, 16, .inl rd))] s.heap := hP
  have hl := lv_entry ([.ref (q 0), .long h]) (n := 6) (Nat.le_of_ble_eq_true rfl)
  rw [lg_entry_eq]
  generalize (lg_sl ([.ref (q 0), .long h]) ++ List.replicate (6 - (lg_sl ([.ref (q 0), .long h])).length) Slot.unset).toArray = ls at hl ⊢
  have hl : lv_has ls 6 [(0, .ref (q 0)), (1, .long h)] := hl
  refine lv_lload_n hx hb dX5_withPlates_0 rfl (lv_at hl 1 rfl) ?_
  refine lv_aload_n hx hb dX5_withPlates_1 rfl (lv_at hl 0 rfl) ?_
  refine va_get (D := (dC, dI)) (ci := 5) (v := .ref (q 17)) (C := RX5) (T := TX5) (N := 5) hx hb hts (by decide +kernel) hown hK hP 0 rfl rfl 4 (by decide) (hts (.fieldLink RX5 40 "AchromatDesk" "plates" "LAchromatDesk$PlateSet;") (by decide +kernel)) (fun _ h9 => h9) rfl dX5_withPlates_2 ?_
  refine va_getN (D := (dC, dI)) (ci := 4) (v := .int (nI np)) (C := RX4) (T := TX4) (N := 2) hx hb hts (by decide +kernel) hown hK hP 1 rfl rfl 1 (by decide) (va_Nw.use (w := .fieldLinkNest "AchromatDesk" 204 "AchromatDesk$PlateSet" "count" "I" "AchromatDesk") rfl (hN.at 5 rfl)) (fun _ h9 => h9) rfl dX5_withPlates_5 ?_
  refine lv_i2l (v := lN np) hx hb dX5_withPlates_8 (nI_l (by omega)) ?_
  refine stSl (As := [.long h, .long (lN np)]) (rest := []) (c_X5_mixed l h (lN np)) ⟨hx, hb, hml, hown, hts⟩ (va_cwS 2 hts gX5_withPlates_X5_mixed rfl rfl rfl (by decide +kernel) ⟨Nat.le_of_ble_eq_true rfl, Nat.le_of_ble_eq_true rfl⟩) rfl hl.1 rfl (Nat.le_of_ble_eq_true rfl) dX5_withPlates_9 ⟨Nat.zero_le _, Nat.zero_le _⟩ (fun r hr0 => ?_)
  subst hr0
  refine lv_lstore_n (lv' := [(3, .long (mixL h (lN np))), (0, .ref (q 0)), (1, .long h)]) hx hb dX5_withPlates_12 rfl hl (by decide) rfl (fun ls hl => ?_)
  refine lv_iconst (v := 0) hx hb dX5_withPlates_13 (by decide) ?_
  refine lv_istore (lv' := [(5, .int 0), (3, .long (mixL h (lN np))), (0, .ref (q 0)), (1, .long h)]) hx hb dX5_withPlates_14 hl (by decide) rfl (fun ls hl => ?_)
  refine rloopZ (nL := 6) 0 np (fun f h => mixL h (rd f).toInt64) (mixL h (lN np)) (fun k16 z16 => [(5, .int (nI k16)), (3, .long z16), (0, .ref (q 0)), (1, .long h)]) (fun _ _ => True) (by omega) (trivial) (lv_sub hl [0, 1, 2, 3] rfl) (fun k16 z16 hlo16 hk16 hz16 hI16 ls hl ih16 => ?_) (fun z16 hz16 hI16 ls hl => ?_)
  · refine lv_iload hx hb dX5_withPlates_16 (lv_at hl 0 rfl) ?_
    refine lv_aload_n hx hb dX5_withPlates_18 rfl (lv_at hl 2 rfl) ?_
    refine va_get (D := (dC, dI)) (ci := 5) (v := .ref (q 17)) (C := RX5) (T := TX5) (N := 5) hx hb hts (by decide +kernel) hown hK hP 0 rfl rfl 4 (by decide) (hts (.fieldLink RX5 40 "AchromatDesk" "plates" "LAchromatDesk$PlateSet;") (by decide +kernel)) (fun _ h9 => h9) rfl dX5_withPlates_19 ?_
    refine va_getN (D := (dC, dI)) (ci := 4) (v := .int (nI np)) (C := RX4) (T := TX4) (N := 2) hx hb hts (by decide +kernel) hown hK hP 1 rfl rfl 1 (by decide) (va_Nw.use (w := .fieldLinkNest "AchromatDesk" 204 "AchromatDesk$PlateSet" "count" "I" "AchromatDesk") rfl (hN.at 5 rfl)) (fun _ h9 => h9) rfl dX5_withPlates_22 ?_
    refine rn_ge (tgt := 50) hx hb k16 np rfl rfl (by omega) (by omega) dX5_withPlates_25 (by decide) (fun h25 => ?_) (fun h25 => ?_)
    · exfalso; omega
    · refine lv_lload_n hx hb dX5_withPlates_28 rfl (lv_at hl 1 rfl) ?_
      refine lv_aload_n hx hb dX5_withPlates_29 rfl (lv_at hl 2 rfl) ?_
      refine va_get (D := (dC, dI)) (ci := 5) (v := .ref (q 17)) (C := RX5) (T := TX5) (N := 5) hx hb hts (by decide +kernel) hown hK hP 0 rfl rfl 4 (by decide) (hts (.fieldLink RX5 40 "AchromatDesk" "plates" "LAchromatDesk$PlateSet;") (by decide +kernel)) (fun _ h9 => h9) rfl dX5_withPlates_30 ?_
      refine lv_iconst (v := 2) hx hb dX5_withPlates_33 (by decide) ?_
      refine lv_iload hx hb dX5_withPlates_34 (lv_at hl 0 rfl) ?_
      refine lv_imul hx hb dX5_withPlates_36 ?_
      refine rw_topi (pk_mul 2 k16) ?_
      refine roVl (As := [.int (nI (2 * k16))]) (rest := [.long z16]) (c_X4_signedRadius l dC dI cI cJ q rd np hp (2 * k16) (by omega)) ⟨hx, hb, hml, hown, hts⟩ (cwV 1 hts gX5_withPlates_X4_signedRadius rfl rfl rfl (by decide +kernel) ⟨Nat.le_of_ble_eq_true rfl, Nat.le_of_ble_eq_true rfl⟩) (hP.sub [1, 2] rfl) hK hN (ci := 4) rfl rfl rfl hl.1 rfl (Nat.le_of_ble_eq_true rfl) dX5_withPlates_37 ⟨Nat.zero_le _, Nat.zero_le _⟩ (fun r hr0 => ?_)
      subst hr0
      refine rw_topl (show (sR rd (2 * k16) : Int64) = ((rd k16).toInt64 : Int64) from by rw [sR, if_pos (by omega), Nat.mul_div_cancel_left _ (by omega)]) ?_
      refine stSl (As := [.long z16, .long ((rd k16).toInt64)]) (rest := []) (c_X5_mixed l z16 ((rd k16).toInt64)) ⟨hx, hb, hml, hown, hts⟩ (va_cwS 2 hts gX5_withPlates_X5_mixed rfl rfl rfl (by decide +kernel) ⟨Nat.le_of_ble_eq_true rfl, Nat.le_of_ble_eq_true rfl⟩) rfl hl.1 rfl (Nat.le_of_ble_eq_true rfl) dX5_withPlates_40 ⟨Nat.zero_le _, Nat.zero_le _⟩ (fun r hr0 => ?_)
      subst hr0
      refine lv_lstore_n (lv' := [(3, .long (mixL z16 ((rd k16).toInt64))), (5, .int (nI k16)), (0, .ref (q 0)), (1, .long h)]) hx hb dX5_withPlates_43 rfl hl (by decide) rfl (fun ls hl => ?_)
      refine lv_iinc (v := nI (k16 + 1)) (lv' := [(5, .int (nI (k16 + 1))), (3, .long (mixL z16 ((rd k16).toInt64))), (0, .ref (q 0)), (1, .long h)]) hx hb dX5_withPlates_44 hl (k := 1) rfl (by first | rfl | exact nI_add _ _) (by decide) rfl (fun ls hl => ?_)
      refine lv_goto (tgt := 16) hx hb dX5_withPlates_47 (by decide) ?_
      exact ih16 (mixL z16 ((rd k16).toInt64)) (rfl) (trivial) ls (lv_sub hl [0, 1, 2, 3] rfl)
  · refine lv_iload hx hb dX5_withPlates_16 (lv_at hl 0 rfl) ?_
    refine lv_aload_n hx hb dX5_withPlates_18 rfl (lv_at hl 2 rfl) ?_
    refine va_get (D := (dC, dI)) (ci := 5) (v := .ref (q 17)) (C := RX5) (T := TX5) (N := 5) hx hb hts (by decide +kernel) hown hK hP 0 rfl rfl 4 (by decide) (hts (.fieldLink RX5 40 "AchromatDesk" "plates" "LAchromatDesk$PlateSet;") (by decide +kernel)) (fun _ h9 => h9) rfl dX5_withPlates_19 ?_
    refine va_getN (D := (dC, dI)) (ci := 4) (v := .int (nI np)) (C := RX4) (T := TX4) (N := 2) hx hb hts (by decide +kernel) hown hK hP 1 rfl rfl 1 (by decide) (va_Nw.use (w := .fieldLinkNest "AchromatDesk" 204 "AchromatDesk$PlateSet" "count" "I" "AchromatDesk") rfl (hN.at 5 rfl)) (fun _ h9 => h9) rfl dX5_withPlates_22 ?_
    refine rn_ge (tgt := 50) hx hb np np rfl rfl (by omega) (by omega) dX5_withPlates_25 (by decide) (fun h25 => ?_) (fun h25 => ?_)
    · refine lv_lload_n hx hb dX5_withPlates_50 rfl (lv_at hl 1 rfl) ?_
      exact W.lret hx hb hr (fun t ht hW => ⟨_, rfl, by rw [hz16]; rfl, ht⟩) (fun _ h => absurd h List.not_mem_nil) dX5_withPlates_51
    · exfalso; omega

set_option maxHeartbeats 4000000 in
set_option maxRecDepth 100000 in
theorem c_X5_withBuffer (l : Launch) (dC : Nat → ClassId) (dI : Nat → Nat → Nat) (cI cJ : ClassId) (q : Nat → Nat) (bf : Nat → Int32) (ln : Nat) (hln : ln ≤ 28) (h : Int64) : Met l yX5_withBuffer wsX5_withBuffer ({ frames := 1, cells := 0, slots := 0, locals := 23 }) (va_Pc [.ref (q 0), .long h] (RO (dC, dI) (tyK cI cJ) ([(q 0, .inr (5, [.ref (q 1), .ref (q 3), .ref (q 8), .ref (q 14), .ref (q 17)])), (q 1, .inr (2, [.ref (q 2), .int (nI ln)])), (q 2, .inl (cI, 28, .inl bf))]))) (vp_Sl (fun r => r = dBuf bf ln h)) 0 0 (fun _ => False) := by
  refine Met.ofW (cc := cX5_withBuffer) (maxL := 6) (ret := (some .long)) (by decide) rfl ?_
  intro p e s m args below meth c s₁ B hml hv
  obtain ⟨rfl, hP, hK, hN⟩ := hv
  have hx := B.exec
  have hb := B.bytes
  have hr := B.returns
  have hts := atoms_spec (ws := wsX5_withBuffer) B.pre
  have hown : s.vm.findClass RX5 = some m.cls := findClass_of_methodNamed B.named
  have hlocks := B.notSynchronized
  have hP : va_P (dC, dI) vwCl [(q 0, .inr (5, [.ref (q 1), .ref (q 3), .ref (q 8), .ref (q 14), .ref (q 17)])), (q 1, .inr (2, [.ref (q 2), .int (nI ln)])), (q 2, .inl (cI, 28, .inl bf))] s.heap := hP
  have hl := lv_entry ([.ref (q 0), .long h]) (n := 6) (Nat.le_of_ble_eq_true rfl)
  rw [lg_entry_eq]
  generalize (lg_sl ([.ref (q 0), .long h]) ++ List.replicate (6 - (lg_sl ([.ref (q 0), .long h])).length) Slot.unset).toArray = ls at hl ⊢
  have hl : lv_has ls 6 [(0, .ref (q 0)), (1, .long h)] := hl
  refine lv_lload_n hx hb dX5_withBuffer_0 rfl (lv_at hl 1 rfl) ?_
  refine lv_aload_n hx hb dX5_withBuffer_1 rfl (lv_at hl 0 rfl) ?_
  refine va_get (D := (dC, dI)) (ci := 5) (v := .ref (q 1)) (C := RX5) (T := TX5) (N := 5) hx hb hts (by decide +kernel) hown hK hP 0 rfl rfl 0 (by decide) (hts (.fieldLink RX5 12 "AchromatDesk" "buffer" "LAchromatDesk$GlassText;") (by decide +kernel)) (fun _ h9 => h9) rfl dX5_withBuffer_2 ?_
  refine va_getN (D := (dC, dI)) (ci := 2) (v := .int (nI ln)) (C := RX2) (T := TX2) (N := 2) hx hb hts (by decide +kernel) hown hK hP 1 rfl rfl 1 (by decide) (va_Nw.use (w := .fieldLinkNest "AchromatDesk" 46 "AchromatDesk$GlassText" "length" "I" "AchromatDesk") rfl (hN.at 0 rfl)) (fun _ h9 => h9) rfl dX5_withBuffer_5 ?_
  refine lv_i2l (v := lN ln) hx hb dX5_withBuffer_8 (nI_l (by omega)) ?_
  refine stSl (As := [.long h, .long (lN ln)]) (rest := []) (c_X5_mixed l h (lN ln)) ⟨hx, hb, hml, hown, hts⟩ (va_cwS 2 hts gX5_withBuffer_X5_mixed rfl rfl rfl (by decide +kernel) ⟨Nat.le_of_ble_eq_true rfl, Nat.le_of_ble_eq_true rfl⟩) rfl hl.1 rfl (Nat.le_of_ble_eq_true rfl) dX5_withBuffer_9 ⟨Nat.zero_le _, Nat.zero_le _⟩ (fun r hr0 => ?_)
  subst hr0
  refine lv_lstore_n (lv' := [(3, .long (mixL h (lN ln))), (0, .ref (q 0)), (1, .long h)]) hx hb dX5_withBuffer_12 rfl hl (by decide) rfl (fun ls hl => ?_)
  refine lv_iconst (v := 0) hx hb dX5_withBuffer_13 (by decide) ?_
  refine lv_istore (lv' := [(5, .int 0), (3, .long (mixL h (lN ln))), (0, .ref (q 0)), (1, .long h)]) hx hb dX5_withBuffer_14 hl (by decide) rfl (fun ls hl => ?_)
  refine rloopZ (nL := 6) 0 ln (fun a h => mixL h (bf a).toInt64) (mixL h (lN ln)) (fun k16 z16 => [(5, .int (nI k16)), (3, .long z16), (0, .ref (q 0)), (1, .long h)]) (fun _ _ => True) (by omega) (trivial) (lv_sub hl [0, 1, 2, 3] rfl) (fun k16 z16 hlo16 hk16 hz16 hI16 ls hl ih16 => ?_) (fun z16 hz16 hI16 ls hl => ?_)
  · refine lv_iload hx hb dX5_withBuffer_16 (lv_at hl 0 rfl) ?_
    refine lv_aload_n hx hb dX5_withBuffer_18 rfl (lv_at hl 2 rfl) ?_
    refine va_get (D := (dC, dI)) (ci := 5) (v := .ref (q 1)) (C := RX5) (T := TX5) (N := 5) hx hb hts (by decide +kernel) hown hK hP 0 rfl rfl 0 (by decide) (hts (.fieldLink RX5 12 "AchromatDesk" "buffer" "LAchromatDesk$GlassText;") (by decide +kernel)) (fun _ h9 => h9) rfl dX5_withBuffer_19 ?_
    refine va_getN (D := (dC, dI)) (ci := 2) (v := .int (nI ln)) (C := RX2) (T := TX2) (N := 2) hx hb hts (by decide +kernel) hown hK hP 1 rfl rfl 1 (by decide) (va_Nw.use (w := .fieldLinkNest "AchromatDesk" 46 "AchromatDesk$GlassText" "length" "I" "AchromatDesk") rfl (hN.at 0 rfl)) (fun _ h9 => h9) rfl dX5_withBuffer_22 ?_
    refine rn_ge (tgt := 49) hx hb k16 ln rfl rfl (by omega) (by omega) dX5_withBuffer_25 (by decide) (fun h25 => ?_) (fun h25 => ?_)
    · exfalso; omega
    · refine lv_lload_n hx hb dX5_withBuffer_28 rfl (lv_at hl 1 rfl) ?_
      refine lv_aload_n hx hb dX5_withBuffer_29 rfl (lv_at hl 2 rfl) ?_
      refine va_get (D := (dC, dI)) (ci := 5) (v := .ref (q 1)) (C := RX5) (T := TX5) (N := 5) hx hb hts (by decide +kernel) hown hK hP 0 rfl rfl 0 (by decide) (hts (.fieldLink RX5 12 "AchromatDesk" "buffer" "LAchromatDesk$GlassText;") (by decide +kernel)) (fun _ h9 => h9) rfl dX5_withBuffer_30 ?_
      refine lv_iload hx hb dX5_withBuffer_33 (lv_at hl 0 rfl) ?_
      refine roVi (As := [.int (nI k16)]) (rest := [.long z16]) (c_X2_codeAt l dC dI cI cJ q bf ln hln k16 (by omega)) ⟨hx, hb, hml, hown, hts⟩ (cwV 1 hts gX5_withBuffer_X2_codeAt rfl rfl rfl (by decide +kernel) ⟨Nat.le_of_ble_eq_true rfl, Nat.le_of_ble_eq_true rfl⟩) (hP.sub [1, 2] rfl) hK hN (ci := 2) rfl rfl rfl hl.1 rfl (Nat.le_of_ble_eq_true rfl) dX5_withBuffer_35 ⟨Nat.zero_le _, Nat.zero_le _⟩ (fun r hr0 => ?_)
      subst hr0
      refine rw_topi (show (cAt bf ln k16 : Int32) = (bf k16 : Int32) from by rw [cAt, if_pos (by omega)]) ?_
      refine lv_i2l (v := (bf k16).toInt64) hx hb dX5_withBuffer_38 rfl ?_
      refine stSl (As := [.long z16, .long ((bf k16).toInt64)]) (rest := []) (c_X5_mixed l z16 ((bf k16).toInt64)) ⟨hx, hb, hml, hown, hts⟩ (va_cwS 2 hts gX5_withBuffer_X5_mixed rfl rfl rfl (by decide +kernel) ⟨Nat.le_of_ble_eq_true rfl, Nat.le_of_ble_eq_true rfl⟩) rfl hl.1 rfl (Nat.le_of_ble_eq_true rfl) dX5_withBuffer_39 ⟨Nat.zero_le _, Nat.zero_le _⟩ (fun r hr0 => ?_)
      subst hr0
      refine lv_lstore_n (lv' := [(3, .long (mixL z16 ((bf k16).toInt64))), (5, .int (nI k16)), (0, .ref (q 0)), (1, .long h)]) hx hb dX5_withBuffer_42 rfl hl (by decide) rfl (fun ls hl => ?_)
      refine lv_iinc (v := nI (k16 + 1)) (lv' := [(5, .int (nI (k16 + 1))), (3, .long (mixL z16 ((bf k16).toInt64))), (0, .ref (q 0)), (1, .long h)]) hx hb dX5_withBuffer_43 hl (k := 1) rfl (by first | rfl | exact nI_add _ _) (by decide) rfl (fun ls hl => ?_)
      refine lv_goto (tgt := 16) hx hb dX5_withBuffer_46 (by decide) ?_
      exact ih16 (mixL z16 ((bf k16).toInt64)) (rfl) (trivial) ls (lv_sub hl [0, 1, 2, 3] rfl)
  · refine lv_iload hx hb dX5_withBuffer_16 (lv_at hl 0 rfl) ?_
    refine lv_aload_n hx hb dX5_withBuffer_18 rfl (lv_at hl 2 rfl) ?_
    refine va_get (D := (dC, dI)) (ci := 5) (v := .ref (q 1)) (C := RX5) (T := TX5) (N := 5) hx hb hts (by decide +kernel) hown hK hP 0 rfl rfl 0 (by decide) (hts (.fieldLink RX5 12 "AchromatDesk" "buffer" "LAchromatDesk$GlassText;") (by decide +kernel)) (fun _ h9 => h9) rfl dX5_withBuffer_19 ?_
    refine va_getN (D := (dC, dI)) (ci := 2) (v := .int (nI ln)) (C := RX2) (T := TX2) (N := 2) hx hb hts (by decide +kernel) hown hK hP 1 rfl rfl 1 (by decide) (va_Nw.use (w := .fieldLinkNest "AchromatDesk" 46 "AchromatDesk$GlassText" "length" "I" "AchromatDesk") rfl (hN.at 0 rfl)) (fun _ h9 => h9) rfl dX5_withBuffer_22 ?_
    refine rn_ge (tgt := 49) hx hb ln ln rfl rfl (by omega) (by omega) dX5_withBuffer_25 (by decide) (fun h25 => ?_) (fun h25 => ?_)
    · refine lv_lload_n hx hb dX5_withBuffer_49 rfl (lv_at hl 1 rfl) ?_
      exact W.lret hx hb hr (fun t ht hW => ⟨_, rfl, by rw [hz16]; rfl, ht⟩) (fun _ h => absurd h List.not_mem_nil) dX5_withBuffer_50
    · exfalso; omega
