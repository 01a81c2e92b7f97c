set_option maxHeartbeats 4000000 in
set_option maxRecDepth 100000 in
theorem c_X5_append (l : Launch) (dC : Nat → ClassId) (dI : Nat → Nat → Nat) (cI cJ : ClassId) (sz : Nat) (q : Nat → Nat) (bf : Nat → Int32) (ln : Nat) (hln : ln ≤ 28) (x : Int32) : Met l yX5_append wsX5_append ({ frames := 1, cells := 0, slots := 0, locals := 21 }) (va_Pc [.ref (q 0), .int x] (MU (dC, dI) (tyK cI cJ) ([(q 0, .inr (5, [.ref (q 1), .ref (q 3), .ref (q 8), .ref (q 14), .ref (q 17)])), (q 1, .inr (2, [.ref (q 2), .int (nI ln)])), (q 2, .inl (cI, 28, .inl bf))]) sz)) (va_Ql (fun r (u : TX) => (r, u) = sApp bf ln x) (MB (dC, dI) ([(q 0, .inr (5, [.ref (q 1), .ref (q 3), .ref (q 8), .ref (q 14), .ref (q 17)])), (q 1, .inr (2, [.ref (q 2), .int (nI ln)])), (q 2, .inl (cI, 28, .inl bf))]) sz (fun (u : TX) => [(q 0, .inr (5, [.ref (q 1), .ref (q 3), .ref (q 8), .ref (q 14), .ref (q 17)])), (q 1, .inr (2, [.ref (q 2), .int (nI u.2)])), (q 2, .inl (cI, 28, .inl u.1))])) (va_A ([(q 0, .inr (5, [.ref (q 1), .ref (q 3), .ref (q 8), .ref (q 14), .ref (q 17)])), (q 1, .inr (2, [.ref (q 2), .int (nI ln)])), (q 2, .inl (cI, 28, .inl bf))]) sz)) 0 0 (va_A ([(q 0, .inr (5, [.ref (q 1), .ref (q 3), .ref (q 8), .ref (q 14), .ref (q 17)])), (q 1, .inr (2, [.ref (q 2), .int (nI ln)])), (q 2, .inl (cI, 28, .inl bf))]) sz) := by
  refine Met.ofW (cc := cX5_append) (maxL := 2) (ret := (some .long)) (by decide) rfl ?_
  intro p e s m args below meth c s₁ B hml hv
  obtain ⟨rfl, hsz, hP, hK, hN, hD0⟩ := hv
  have hx := B.exec
  have hb := B.bytes
  have hr := B.returns
  have hts := atoms_spec (ws := wsX5_append) B.pre
  have hown : s.vm.findClass RX5 = some m.cls := findClass_of_methodNamed B.named
  have hlocks := B.notSynchronized
  subst hsz
  have hD := hD0.self (sz := s.heap.size)
  generalize hAe : va_A ([(q 0, .inr (5, [.ref (q 1), .ref (q 3), .ref (q 8), .ref (q 14), .ref (q 17)])), (q 1, .inr (2, [.ref (q 2), .int (nI ln)])), (q 2, .inl (cI, 28, .inl bf))]) s.heap.size = A at hD ⊢
  have hA : ∀ q : Nat, s.heap.size ≤ q → A q := fun q h => by rw [← hAe]; exact Or.inr h
  have hS : va_S A s.heap s.heap [] := va_S.rf
  have hP : va_P (dC, dI) vwCl [(q 0, .inr (5, [.ref (q 1), .ref (q 3), .ref (q 8), .ref (q 14), .ref (q 17)])), (q 1, .inr (2, [.ref (q 2), .int (nI ln)])), (q 2, .inl (cI, 28, .inl bf))] s.heap := hP
  have hD : va_D A [(q 0, .inr (5, [.ref (q 1), .ref (q 3), .ref (q 8), .ref (q 14), .ref (q 17)])), (q 1, .inr (2, [.ref (q 2), .int (nI ln)])), (q 2, .inl (cI, 28, .inl bf))] := hD
  obtain ⟨H, hH⟩ : ∃ H : Heap, H = s.heap := ⟨_, rfl⟩
  obtain ⟨locs, hlc⟩ : ∃ locs : List Loc, locs = [] := ⟨_, rfl⟩
  have hl := lv_entry ([.ref (q 0), .int x]) (n := 2) (Nat.le_of_ble_eq_true rfl)
  rw [lg_entry_eq]
  generalize (lg_sl ([.ref (q 0), .int x]) ++ List.replicate (2 - (lg_sl ([.ref (q 0), .int x])).length) Slot.unset).toArray = ls at hl ⊢
  have hl : lv_has ls 2 [(0, .ref (q 0)), (1, .int x)] := hl
  refine mu_in hH hlc (fun hS hP hD => ?_) hS hP hD
  clear hH hlc
  refine lv_iload_n hx hb dX5_append_0 rfl (lv_at hl 1 rfl) ?_
  refine lv_bipush (v := 32) hx hb dX5_append_1 (by decide) ?_
  refine lv_icmp_lt (tgt := 12) hx hb dX5_append_3 (by decide) (fun h3 => ?_) (fun h3 => ?_)
  · refine lv_ldc2 (v := (-9000000000000000001)) hx hb hown (hts (.constantLong RX5 44 (-9000000000000000001)) (by decide +kernel)) dX5_append_12 ?_
    exact W.lret hx hb hr (fun t ht hW => ⟨⟨_, (bf, ln), rfl, by rw [sApp, if_neg (fun w => absurd w.1 (Int32.not_le.mpr h3))], by rw [ht]; exact hP, by rw [hAe]; exact hD⟩, hS.F ht⟩) hS.2.2 dX5_append_15
  · refine lv_iload_n hx hb dX5_append_6 rfl (lv_at hl 1 rfl) ?_
    refine lv_bipush (v := 126) hx hb dX5_append_7 (by decide) ?_
    refine lv_icmp_le (tgt := 16) hx hb dX5_append_9 (by decide) (fun h9 => ?_) (fun h9 => ?_)
    · refine lv_aload_n hx hb dX5_append_16 rfl (lv_at hl 0 rfl) ?_
      refine va_get (D := (dC, dI)) (ci := 5) (v := .ref (q 1)) (C := RX5) (T := TX5) (N := 5) hx hb hts (by decide +kernel) hown hK hP 0 rfl rfl 0 (by decide) (hts (.fieldLink RX5 12 "AchromatDesk" "buffer" "LAchromatDesk$GlassText;") (by decide +kernel)) (fun _ h9 => h9) rfl dX5_append_17 ?_
      refine va_getN (D := (dC, dI)) (ci := 2) (v := .int (nI ln)) (C := RX2) (T := TX2) (N := 2) hx hb hts (by decide +kernel) hown hK hP 1 rfl rfl 1 (by decide) (va_Nw.use (w := .fieldLinkNest "AchromatDesk" 46 "AchromatDesk$GlassText" "length" "I" "AchromatDesk") rfl (hN.at 0 rfl)) (fun _ h9 => h9) rfl dX5_append_20 ?_
      refine lv_bipush (v := 28) hx hb dX5_append_23 (by decide) ?_
      refine rn_ne (tgt := 32) hx hb ln 28 rfl rfl (by omega) (by omega) dX5_append_25 (by decide) (fun h25 => ?_) (fun h25 => ?_)
      · refine lv_aload_n hx hb dX5_append_32 rfl (lv_at hl 0 rfl) ?_
        refine va_get (D := (dC, dI)) (ci := 5) (v := .ref (q 1)) (C := RX5) (T := TX5) (N := 5) hx hb hts (by decide +kernel) hown hK hP 0 rfl rfl 0 (by decide) (hts (.fieldLink RX5 12 "AchromatDesk" "buffer" "LAchromatDesk$GlassText;") (by decide +kernel)) (fun _ h9 => h9) rfl dX5_append_33 ?_
        refine lv_iload_n hx hb dX5_append_36 rfl (lv_at hl 1 rfl) ?_
        refine muVv (As := [.int x]) (rest := []) (wr := [(q 0, .inr (5, [.ref (q 1), .ref (q 3), .ref (q 8), .ref (q 14), .ref (q 17)]))]) (c_X2_add l dC dI cI cJ H.size q bf ln hln (by omega) x) ⟨hx, hb, hml, hown, hts⟩ (cwV 1 hts gX5_append_X2_add rfl rfl rfl (by decide +kernel) ⟨Nat.le_of_ble_eq_true rfl, Nat.le_of_ble_eq_true rfl⟩) hP hD hS hA hK hN [1, 2] [0] rfl rfl (by decide) rfl (by decide) (by decide) (ci := 2) rfl rfl rfl hl.1 rfl (Nat.le_of_ble_eq_true rfl) dX5_append_37 ⟨Nat.le_of_ble_eq_true rfl, Nat.le_of_ble_eq_true rfl⟩ (fun _ H locs hr0 hP hD hS => ?_)
        have hP := hP.sub (ws' := [(q 0, .inr (5, [.ref (q 1), .ref (q 3), .ref (q 8), .ref (q 14), .ref (q 17)])), (q 1, .inr (2, [.ref (q 2), .int (nI (ln + 1))])), (q 2, .inl (cI, 28, .inl (upd bf ln x)))]) [0, 1, 2] rfl
        have hD := hD.sub (ws' := [(q 0, .inr (5, [.ref (q 1), .ref (q 3), .ref (q 8), .ref (q 14), .ref (q 17)])), (q 1, .inr (2, [.ref (q 2), .int (nI (ln + 1))])), (q 2, .inl (cI, 28, .inl (upd bf ln x)))]) [0, 1, 2] (by decide) rfl
        refine lv_aload_n hx hb dX5_append_40 rfl (lv_at hl 0 rfl) ?_
        refine va_get (D := (dC, dI)) (ci := 5) (v := .ref (q 1)) (C := RX5) (T := TX5) (N := 5) hx hb hts (by decide +kernel) hown hK hP 0 rfl rfl 0 (by decide) (hts (.fieldLink RX5 12 "AchromatDesk" "buffer" "LAchromatDesk$GlassText;") (by decide +kernel)) (fun _ h9 => h9) rfl dX5_append_41 ?_
        refine va_getN (D := (dC, dI)) (ci := 2) (v := .int (nI (ln + 1))) (C := RX2) (T := TX2) (N := 2) hx hb hts (by decide +kernel) hown hK hP 1 rfl rfl 1 (by decide) (va_Nw.use (w := .fieldLinkNest "AchromatDesk" 46 "AchromatDesk$GlassText" "length" "I" "AchromatDesk") rfl (hN.at 0 rfl)) (fun _ h9 => h9) rfl dX5_append_44 ?_
        refine lv_i2l (v := lN (ln + 1)) hx hb dX5_append_47 (nI_l (by omega)) ?_
        exact W.lret hx hb hr (fun t ht hW => ⟨⟨_, (upd bf ln x, ln + 1), rfl, by rw [sApp, if_pos ⟨Int32.not_lt.mp h3, h9⟩, if_neg h25], by rw [ht]; exact hP, by rw [hAe]; exact hD⟩, hS.F ht⟩) hS.2.2 dX5_append_48
      · refine lv_ldc2 (v := (-9000000000000000004)) hx hb hown (hts (.constantLong RX5 50 (-9000000000000000004)) (by decide +kernel)) dX5_append_28 ?_
        exact W.lret hx hb hr (fun t ht hW => ⟨⟨_, (bf, ln), rfl, by rw [sApp, if_pos ⟨Int32.not_lt.mp h3, h9⟩, if_pos h25], by rw [ht]; exact hP, by rw [hAe]; exact hD⟩, hS.F ht⟩) hS.2.2 dX5_append_31
    · refine lv_ldc2 (v := (-9000000000000000001)) hx hb hown (hts (.constantLong RX5 44 (-9000000000000000001)) (by decide +kernel)) dX5_append_12 ?_
      exact W.lret hx hb hr (fun t ht hW => ⟨⟨_, (bf, ln), rfl, by rw [sApp, if_neg (fun w => h9 w.2)], by rw [ht]; exact hP, by rw [hAe]; exact hD⟩, hS.F ht⟩) hS.2.2 dX5_append_15

set_option maxHeartbeats 4000000 in
set_option maxRecDepth 100000 in
theorem c_X5_clearBuffer (l : Launch) (dC : Nat → ClassId) (dI : Nat → Nat → Nat) (cI cJ : ClassId) (sz : Nat) (q : Nat → Nat) (bf : Nat → Int32) (ln : Nat) (hln : ln ≤ 28)  : Met l yX5_clearBuffer wsX5_clearBuffer ({ frames := 1, cells := 0, slots := 0, locals := 20 }) (va_Pc [.ref (q 0)] (MU (dC, dI) (tyK cI cJ) ([(q 0, .inr (5, [.ref (q 1), .ref (q 3), .ref (q 8), .ref (q 14), .ref (q 17)])), (q 1, .inr (2, [.ref (q 2), .int (nI ln)])), (q 2, .inl (cI, 28, .inl bf))]) sz)) (va_Ql (fun r (u : TX) => (r, u) = (lN ln, bf, 0)) (MB (dC, dI) ([(q 0, .inr (5, [.ref (q 1), .ref (q 3), .ref (q 8), .ref (q 14), .ref (q 17)])), (q 1, .inr (2, [.ref (q 2), .int (nI ln)])), (q 2, .inl (cI, 28, .inl bf))]) sz (fun (u : TX) => [(q 0, .inr (5, [.ref (q 1), .ref (q 3), .ref (q 8), .ref (q 14), .ref (q 17)])), (q 1, .inr (2, [.ref (q 2), .int (nI u.2)])), (q 2, .inl (cI, 28, .inl u.1))])) (va_A ([(q 0, .inr (5, [.ref (q 1), .ref (q 3), .ref (q 8), .ref (q 14), .ref (q 17)])), (q 1, .inr (2, [.ref (q 2), .int (nI ln)])), (q 2, .inl (cI, 28, .inl bf))]) sz)) 0 0 (va_A ([(q 0, .inr (5, [.ref (q 1), .ref (q 3), .ref (q 8), .ref (q 14), .ref (q 17)])), (q 1, .inr (2, [.ref (q 2), .int (nI ln)])), (q 2, .inl (cI, 28, .inl bf))]) sz) := by
  refine Met.ofW (cc := cX5_clearBuffer) (maxL := 2) (ret := (some .long)) (by decide) rfl ?_
  intro p e s m args below meth c s₁ B hml hv
  obtain ⟨rfl, hsz, hP, hK, hN, hD0⟩ := hv
  have hx := B.exec
  have hb := B.bytes
  have hr := B.returns
  have hts := atoms_spec (ws := wsX5_clearBuffer) B.pre
  have hown : s.vm.findClass RX5 = some m.cls := findClass_of_methodNamed B.named
  have hlocks := B.notSynchronized
  subst hsz
  have hD := hD0.self (sz := s.heap.size)
  generalize hAe : va_A ([(q 0, .inr (5, [.ref (q 1), .ref (q 3), .ref (q 8), .ref (q 14), .ref (q 17)])), (q 1, .inr (2, [.ref (q 2), .int (nI ln)])), (q 2, .inl (cI, 28, .inl bf))]) s.heap.size = A at hD ⊢
  have hA : ∀ q : Nat, s.heap.size ≤ q → A q := fun q h => by rw [← hAe]; exact Or.inr h
  have hS : va_S A s.heap s.heap [] := va_S.rf
  have hP : va_P (dC, dI) vwCl [(q 0, .inr (5, [.ref (q 1), .ref (q 3), .ref (q 8), .ref (q 14), .ref (q 17)])), (q 1, .inr (2, [.ref (q 2), .int (nI ln)])), (q 2, .inl (cI, 28, .inl bf))] s.heap := hP
  have hD : va_D A [(q 0, .inr (5, [.ref (q 1), .ref (q 3), .ref (q 8), .ref (q 14), .ref (q 17)])), (q 1, .inr (2, [.ref (q 2), .int (nI ln)])), (q 2, .inl (cI, 28, .inl bf))] := hD
  obtain ⟨H, hH⟩ : ∃ H : Heap, H = s.heap := ⟨_, rfl⟩
  obtain ⟨locs, hlc⟩ : ∃ locs : List Loc, locs = [] := ⟨_, rfl⟩
  have hl := lv_entry ([.ref (q 0)]) (n := 2) (Nat.le_of_ble_eq_true rfl)
  rw [lg_entry_eq]
  generalize (lg_sl ([.ref (q 0)]) ++ List.replicate (2 - (lg_sl ([.ref (q 0)])).length) Slot.unset).toArray = ls at hl ⊢
  have hl : lv_has ls 2 [(0, .ref (q 0))] := hl
  refine mu_in hH hlc (fun hS hP hD => ?_) hS hP hD
  clear hH hlc
  refine lv_aload_n hx hb dX5_clearBuffer_0 rfl (lv_at hl 0 rfl) ?_
  refine va_get (D := (dC, dI)) (ci := 5) (v := .ref (q 1)) (C := RX5) (T := TX5) (N := 5) hx hb hts (by decide +kernel) hown hK hP 0 rfl rfl 0 (by decide) (hts (.fieldLink RX5 12 "AchromatDesk" "buffer" "LAchromatDesk$GlassText;") (by decide +kernel)) (fun _ h9 => h9) rfl dX5_clearBuffer_1 ?_
  refine va_getN (D := (dC, dI)) (ci := 2) (v := .int (nI ln)) (C := RX2) (T := TX2) (N := 2) hx hb hts (by decide +kernel) hown hK hP 1 rfl rfl 1 (by decide) (va_Nw.use (w := .fieldLinkNest "AchromatDesk" 46 "AchromatDesk$GlassText" "length" "I" "AchromatDesk") rfl (hN.at 0 rfl)) (fun _ h9 => h9) rfl dX5_clearBuffer_4 ?_
  refine lv_istore_n (lv' := [(1, .int (nI ln)), (0, .ref (q 0))]) hx hb dX5_clearBuffer_7 rfl hl (by decide) rfl (fun ls hl => ?_)
  refine lv_aload_n hx hb dX5_clearBuffer_8 rfl (lv_at hl 1 rfl) ?_
  refine va_get (D := (dC, dI)) (ci := 5) (v := .ref (q 1)) (C := RX5) (T := TX5) (N := 5) hx hb hts (by decide +kernel) hown hK hP 0 rfl rfl 0 (by decide) (hts (.fieldLink RX5 12 "AchromatDesk" "buffer" "LAchromatDesk$GlassText;") (by decide +kernel)) (fun _ h9 => h9) rfl dX5_clearBuffer_9 ?_
  refine muVv (As := []) (rest := []) (wr := [(q 0, .inr (5, [.ref (q 1), .ref (q 3), .ref (q 8), .ref (q 14), .ref (q 17)]))]) (c_X2_empty l dC dI cI cJ H.size q bf ln hln) ⟨hx, hb, hml, hown, hts⟩ (cwV 0 hts gX5_clearBuffer_X2_empty rfl rfl rfl (by decide +kernel) ⟨Nat.le_of_ble_eq_true rfl, Nat.le_of_ble_eq_true rfl⟩) hP hD hS hA hK hN [1, 2] [0] rfl rfl (by decide) rfl (by decide) (by decide) (ci := 2) rfl rfl rfl hl.1 rfl (Nat.le_of_ble_eq_true rfl) dX5_clearBuffer_12 ⟨Nat.le_of_ble_eq_true rfl, Nat.le_of_ble_eq_true rfl⟩ (fun _ H locs hr0 hP hD hS => ?_)
  have hP := hP.sub (ws' := [(q 0, .inr (5, [.ref (q 1), .ref (q 3), .ref (q 8), .ref (q 14), .ref (q 17)])), (q 1, .inr (2, [.ref (q 2), .int (nI 0)])), (q 2, .inl (cI, 28, .inl bf))]) [0, 1, 2] rfl
  have hD := hD.sub (ws' := [(q 0, .inr (5, [.ref (q 1), .ref (q 3), .ref (q 8), .ref (q 14), .ref (q 17)])), (q 1, .inr (2, [.ref (q 2), .int (nI 0)])), (q 2, .inl (cI, 28, .inl bf))]) [0, 1, 2] (by decide) rfl
  refine lv_iload_n hx hb dX5_clearBuffer_15 rfl (lv_at hl 0 rfl) ?_
  refine lv_i2l (v := lN ln) hx hb dX5_clearBuffer_16 (nI_l (by omega)) ?_
  exact W.lret hx hb hr (fun t ht hW => ⟨⟨_, (bf, 0), rfl, rfl, by rw [ht]; exact hP, by rw [hAe]; exact hD⟩, hS.F ht⟩) hS.2.2 dX5_clearBuffer_17

set_option maxHeartbeats 4000000 in
set_option maxRecDepth 100000 in
theorem c_X5_addGlass (l : Launch) (dC : Nat → ClassId) (dI : Nat → Nat → Nat) (cI cJ : ClassId) (sz : Nat) (q : Nat → Nat) (bf : Nat → Int32) (ln : Nat) (hln : ln ≤ 28) (G : GL) (n : Nat) (hn : n ≤ 20)  : Met l yX5_addGlass wsX5_addGlass ({ frames := 4, cells := 0, slots := 0, locals := 87 }) (va_Pc [.ref (q 0)] (MU (dC, dI) (tyK cI cJ) ([(q 0, .inr (5, [.ref (q 1), .ref (q 3), .ref (q 8), .ref (q 14), .ref (q 17)])), (q 1, .inr (2, [.ref (q 2), .int (nI ln)])), (q 2, .inl (cI, 28, .inl bf)), (q 3, .inr (0, [.ref (q 4), .ref (q 5), .ref (q 6), .ref (q 7), .int (nI n)])), (q 4, .inl (cJ, 20, .inr (.inl (gK G)))), (q 5, .inl (cI, 20, .inl (gF G))), (q 6, .inl (cI, 20, .inl (gD G))), (q 7, .inl (cI, 20, .inl (gC G)))]) sz)) (va_Ql (fun r (u : AG) => (r, u) = sAdG bf ln G n) (MB (dC, dI) ([(q 0, .inr (5, [.ref (q 1), .ref (q 3), .ref (q 8), .ref (q 14), .ref (q 17)])), (q 1, .inr (2, [.ref (q 2), .int (nI ln)])), (q 2, .inl (cI, 28, .inl bf)), (q 3, .inr (0, [.ref (q 4), .ref (q 5), .ref (q 6), .ref (q 7), .int (nI n)])), (q 4, .inl (cJ, 20, .inr (.inl (gK G)))), (q 5, .inl (cI, 20, .inl (gF G))), (q 6, .inl (cI, 20, .inl (gD G))), (q 7, .inl (cI, 20, .inl (gC G)))]) sz (fun (u : AG) => [(q 0, .inr (5, [.ref (q 1), .ref (q 3), .ref (q 8), .ref (q 14), .ref (q 17)])), (q 1, .inr (2, [.ref (q 2), .int (nI u.1)])), (q 2, .inl (cI, 28, .inl bf)), (q 3, .inr (0, [.ref (q 4), .ref (q 5), .ref (q 6), .ref (q 7), .int (nI u.2.2)])), (q 4, .inl (cJ, 20, .inr (.inl (gK u.2.1)))), (q 5, .inl (cI, 20, .inl (gF u.2.1))), (q 6, .inl (cI, 20, .inl (gD u.2.1))), (q 7, .inl (cI, 20, .inl (gC u.2.1)))])) (va_A ([(q 0, .inr (5, [.ref (q 1), .ref (q 3), .ref (q 8), .ref (q 14), .ref (q 17)])), (q 1, .inr (2, [.ref (q 2), .int (nI ln)])), (q 2, .inl (cI, 28, .inl bf)), (q 3, .inr (0, [.ref (q 4), .ref (q 5), .ref (q 6), .ref (q 7), .int (nI n)])), (q 4, .inl (cJ, 20, .inr (.inl (gK G)))), (q 5, .inl (cI, 20, .inl (gF G))), (q 6, .inl (cI, 20, .inl (gD G))), (q 7, .inl (cI, 20, .inl (gC G)))]) sz)) 0 0 (va_A ([(q 0, .inr (5, [.ref (q 1), .ref (q 3), .ref (q 8), .ref (q 14), .ref (q 17)])), (q 1, .inr (2, [.ref (q 2), .int (nI ln)])), (q 2, .inl (cI, 28, .inl bf)), (q 3, .inr (0, [.ref (q 4), .ref (q 5), .ref (q 6), .ref (q 7), .int (nI n)])), (q 4, .inl (cJ, 20, .inr (.inl (gK G)))), (q 5, .inl (cI, 20, .inl (gF G))), (q 6, .inl (cI, 20, .inl (gD G))), (q 7, .inl (cI, 20, .inl (gC G)))]) sz) := by
  refine Met.ofW (cc := cX5_addGlass) (maxL := 6) (ret := (some .long)) (by decide) rfl ?_
  intro p e s m args below meth c s₁ B hml hv
  obtain ⟨rfl, hsz, hP, hK, hN, hD0⟩ := hv
  have hx := B.exec
  have hb := B.bytes
  have hr := B.returns
  have hts := atoms_spec (ws := wsX5_addGlass) B.pre
  have hown : s.vm.findClass RX5 = some m.cls := findClass_of_methodNamed B.named
  have hlocks := B.notSynchronized
  subst hsz
  have hD := hD0.self (sz := s.heap.size)
  generalize hAe : va_A ([(q 0, .inr (5, [.ref (q 1), .ref (q 3), .ref (q 8), .ref (q 14), .ref (q 17)])), (q 1, .inr (2, [.ref (q 2), .int (nI ln)])), (q 2, .inl (cI, 28, .inl bf)), (q 3, .inr (0, [.ref (q 4), .ref (q 5), .ref (q 6), .ref (q 7), .int (nI n)])), (q 4, .inl (cJ, 20, .inr (.inl (gK G)))), (q 5, .inl (cI, 20, .inl (gF G))), (q 6, .inl (cI, 20, .inl (gD G))), (q 7, .inl (cI, 20, .inl (gC G)))]) s.heap.size = A at hD ⊢
  have hA : ∀ q : Nat, s.heap.size ≤ q → A q := fun q h => by rw [← hAe]; exact Or.inr h
  have hS : va_S A s.heap s.heap [] := va_S.rf
  have hP : va_P (dC, dI) vwCl [(q 0, .inr (5, [.ref (q 1), .ref (q 3), .ref (q 8), .ref (q 14), .ref (q 17)])), (q 1, .inr (2, [.ref (q 2), .int (nI ln)])), (q 2, .inl (cI, 28, .inl bf)), (q 3, .inr (0, [.ref (q 4), .ref (q 5), .ref (q 6), .ref (q 7), .int (nI n)])), (q 4, .inl (cJ, 20, .inr (.inl (gK G)))), (q 5, .inl (cI, 20, .inl (gF G))), (q 6, .inl (cI, 20, .inl (gD G))), (q 7, .inl (cI, 20, .inl (gC G)))] s.heap := hP
  have hD : va_D A [(q 0, .inr (5, [.ref (q 1), .ref (q 3), .ref (q 8), .ref (q 14), .ref (q 17)])), (q 1, .inr (2, [.ref (q 2), .int (nI ln)])), (q 2, .inl (cI, 28, .inl bf)), (q 3, .inr (0, [.ref (q 4), .ref (q 5), .ref (q 6), .ref (q 7), .int (nI n)])), (q 4, .inl (cJ, 20, .inr (.inl (gK G)))), (q 5, .inl (cI, 20, .inl (gF G))), (q 6, .inl (cI, 20, .inl (gD G))), (q 7, .inl (cI, 20, .inl (gC G)))] := hD
  obtain ⟨H, hH⟩ : ∃ H : Heap, H = s.heap := ⟨_, rfl⟩
  obtain ⟨locs, hlc⟩ : ∃ locs : List Loc, locs = [] := ⟨_, rfl⟩
  have hl := lv_entry ([.ref (q 0)]) (n := 6) (Nat.le_of_ble_eq_true rfl)
  rw [lg_entry_eq]
  generalize (lg_sl ([.ref (q 0)]) ++ List.replicate (6 - (lg_sl ([.ref (q 0)])).length) Slot.unset).toArray = ls at hl ⊢
  have hl : lv_has ls 6 [(0, .ref (q 0))] := hl
  refine mu_in hH hlc (fun hS hP hD => ?_) hS hP hD
  clear hH hlc
  refine lv_aload_n hx hb dX5_addGlass_0 rfl (lv_at hl 0 rfl) ?_
  refine va_get (D := (dC, dI)) (ci := 5) (v := .ref (q 1)) (C := RX5) (T := TX5) (N := 5) hx hb hts (by decide +kernel) hown hK hP 0 rfl rfl 0 (by decide) (hts (.fieldLink RX5 12 "AchromatDesk" "buffer" "LAchromatDesk$GlassText;") (by decide +kernel)) (fun _ h9 => h9) rfl dX5_addGlass_1 ?_
  refine roVi (As := []) (rest := []) (c_X2_isComplete l dC dI cI cJ q bf ln hln ) ⟨hx, hb, hml, hown, hts⟩ (cwV 0 hts gX5_addGlass_X2_isComplete rfl rfl rfl (by decide +kernel) ⟨Nat.le_of_ble_eq_true rfl, Nat.le_of_ble_eq_true rfl⟩) (hP.sub [1, 2] rfl) hK hN (ci := 2) rfl rfl rfl hl.1 rfl (Nat.le_of_ble_eq_true rfl) dX5_addGlass_4 ⟨Nat.zero_le _, Nat.zero_le _⟩ (fun r hr0 => ?_)
  subst hr0
  refine rb_ne (tgt := 14) hx hb dX5_addGlass_7 (by decide) (fun h7 => ?_) (fun h7 => ?_)
  · refine lv_aload_n hx hb dX5_addGlass_14 rfl (lv_at hl 0 rfl) ?_
    refine va_get (D := (dC, dI)) (ci := 5) (v := .ref (q 1)) (C := RX5) (T := TX5) (N := 5) hx hb hts (by decide +kernel) hown hK hP 0 rfl rfl 0 (by decide) (hts (.fieldLink RX5 12 "AchromatDesk" "buffer" "LAchromatDesk$GlassText;") (by decide +kernel)) (fun _ h9 => h9) rfl dX5_addGlass_15 ?_
    refine lv_iconst (v := 0) hx hb dX5_addGlass_18 (by decide) ?_
    refine roVi (As := [.int 0]) (rest := []) (c_X2_number l dC dI cI cJ q bf ln hln 0 (by omega)) ⟨hx, hb, hml, hown, hts⟩ (cwV 1 hts gX5_addGlass_X2_number rfl rfl rfl (by decide +kernel) ⟨Nat.le_of_ble_eq_true rfl, Nat.le_of_ble_eq_true rfl⟩) (hP.sub [1, 2] rfl) hK hN (ci := 2) rfl rfl rfl hl.1 rfl (Nat.le_of_ble_eq_true rfl) dX5_addGlass_19 ⟨Nat.zero_le _, Nat.zero_le _⟩ (fun r hr0 => ?_)
    subst hr0
    refine lv_istore_n (lv' := [(1, .int (numA bf ln 0)), (0, .ref (q 0))]) hx hb dX5_addGlass_22 rfl hl (by decide) rfl (fun ls hl => ?_)
    refine lv_aload_n hx hb dX5_addGlass_23 rfl (lv_at hl 1 rfl) ?_
    refine va_get (D := (dC, dI)) (ci := 5) (v := .ref (q 1)) (C := RX5) (T := TX5) (N := 5) hx hb hts (by decide +kernel) hown hK hP 0 rfl rfl 0 (by decide) (hts (.fieldLink RX5 12 "AchromatDesk" "buffer" "LAchromatDesk$GlassText;") (by decide +kernel)) (fun _ h9 => h9) rfl dX5_addGlass_24 ?_
    refine lv_iconst (v := 1) hx hb dX5_addGlass_27 (by decide) ?_
    refine roVi (As := [.int 1]) (rest := []) (c_X2_number l dC dI cI cJ q bf ln hln 1 (by omega)) ⟨hx, hb, hml, hown, hts⟩ (cwV 1 hts gX5_addGlass_X2_number rfl rfl rfl (by decide +kernel) ⟨Nat.le_of_ble_eq_true rfl, Nat.le_of_ble_eq_true rfl⟩) (hP.sub [1, 2] rfl) hK hN (ci := 2) rfl rfl rfl hl.1 rfl (Nat.le_of_ble_eq_true rfl) dX5_addGlass_28 ⟨Nat.zero_le _, Nat.zero_le _⟩ (fun r hr0 => ?_)
    subst hr0
    refine lv_istore_n (lv' := [(2, .int (numA bf ln 1)), (1, .int (numA bf ln 0)), (0, .ref (q 0))]) hx hb dX5_addGlass_31 rfl hl (by decide) rfl (fun ls hl => ?_)
    refine lv_aload_n hx hb dX5_addGlass_32 rfl (lv_at hl 2 rfl) ?_
    refine va_get (D := (dC, dI)) (ci := 5) (v := .ref (q 1)) (C := RX5) (T := TX5) (N := 5) hx hb hts (by decide +kernel) hown hK hP 0 rfl rfl 0 (by decide) (hts (.fieldLink RX5 12 "AchromatDesk" "buffer" "LAchromatDesk$GlassText;") (by decide +kernel)) (fun _ h9 => h9) rfl dX5_addGlass_33 ?_
    refine lv_iconst (v := 2) hx hb dX5_addGlass_36 (by decide) ?_
    refine roVi (As := [.int 2]) (rest := []) (c_X2_number l dC dI cI cJ q bf ln hln 2 (by omega)) ⟨hx, hb, hml, hown, hts⟩ (cwV 1 hts gX5_addGlass_X2_number rfl rfl rfl (by decide +kernel) ⟨Nat.le_of_ble_eq_true rfl, Nat.le_of_ble_eq_true rfl⟩) (hP.sub [1, 2] rfl) hK hN (ci := 2) rfl rfl rfl hl.1 rfl (Nat.le_of_ble_eq_true rfl) dX5_addGlass_37 ⟨Nat.zero_le _, Nat.zero_le _⟩ (fun r hr0 => ?_)
    subst hr0
    refine lv_istore_n (lv' := [(3, .int (numA bf ln 2)), (2, .int (numA bf ln 1)), (1, .int (numA bf ln 0)), (0, .ref (q 0))]) hx hb dX5_addGlass_40 rfl hl (by decide) rfl (fun ls hl => ?_)
    refine lv_iload_n hx hb dX5_addGlass_41 rfl (lv_at hl 2 rfl) ?_
    refine lv_iload_n hx hb dX5_addGlass_42 rfl (lv_at hl 1 rfl) ?_
    refine lv_iload_n hx hb dX5_addGlass_43 rfl (lv_at hl 0 rfl) ?_
    refine stSi (As := [.int (numA bf ln 0), .int (numA bf ln 1), .int (numA bf ln 2)]) (rest := []) (c_X5_areGlassIndices l (numA bf ln 0) (numA bf ln 1) (numA bf ln 2)) ⟨hx, hb, hml, hown, hts⟩ (va_cwS 3 hts gX5_addGlass_X5_areGlassIndices rfl rfl rfl (by decide +kernel) ⟨Nat.le_of_ble_eq_true rfl, Nat.le_of_ble_eq_true rfl⟩) rfl hl.1 rfl (Nat.le_of_ble_eq_true rfl) dX5_addGlass_44 ⟨Nat.zero_le _, Nat.zero_le _⟩ (fun r hr0 => ?_)
    subst hr0
    refine rb_ne (tgt := 54) hx hb dX5_addGlass_47 (by decide) (fun h47 => ?_) (fun h47 => ?_)
    · refine lv_aload_n hx hb dX5_addGlass_54 rfl (lv_at hl 3 rfl) ?_
      refine va_get (D := (dC, dI)) (ci := 5) (v := .ref (q 3)) (C := RX5) (T := TX5) (N := 5) hx hb hts (by decide +kernel) hown hK hP 0 rfl rfl 1 (by decide) (hts (.fieldLink RX5 19 "AchromatDesk" "glasses" "LAchromatDesk$Catalogue;") (by decide +kernel)) (fun _ h9 => h9) rfl dX5_addGlass_55 ?_
      refine va_getN (D := (dC, dI)) (ci := 0) (v := .int (nI n)) (C := RX0) (T := TX0) (N := 5) hx hb hts (by decide +kernel) hown hK hP 3 rfl rfl 4 (by decide) (va_Nw.use (w := .fieldLinkNest "AchromatDesk" 77 "AchromatDesk$Catalogue" "count" "I" "AchromatDesk") rfl (hN.at 2 rfl)) (fun _ h9 => h9) rfl dX5_addGlass_58 ?_
      refine lv_bipush (v := 20) hx hb dX5_addGlass_61 (by decide) ?_
      refine rn_ne (tgt := 70) hx hb n 20 rfl rfl (by omega) (by omega) dX5_addGlass_63 (by decide) (fun h63 => ?_) (fun h63 => ?_)
      · refine lv_aload_n hx hb dX5_addGlass_70 rfl (lv_at hl 3 rfl) ?_
        refine va_get (D := (dC, dI)) (ci := 5) (v := .ref (q 1)) (C := RX5) (T := TX5) (N := 5) hx hb hts (by decide +kernel) hown hK hP 0 rfl rfl 0 (by decide) (hts (.fieldLink RX5 12 "AchromatDesk" "buffer" "LAchromatDesk$GlassText;") (by decide +kernel)) (fun _ h9 => h9) rfl dX5_addGlass_71 ?_
        refine roVl (As := []) (rest := []) (c_X2_nameKey l dC dI cI cJ q bf ln hln ) ⟨hx, hb, hml, hown, hts⟩ (cwV 0 hts gX5_addGlass_X2_nameKey rfl rfl rfl (by decide +kernel) ⟨Nat.le_of_ble_eq_true rfl, Nat.le_of_ble_eq_true rfl⟩) (hP.sub [1, 2] rfl) hK hN (ci := 2) rfl rfl rfl hl.1 rfl (Nat.le_of_ble_eq_true rfl) dX5_addGlass_74 ⟨Nat.zero_le _, Nat.zero_le _⟩ (fun r hr0 => ?_)
        subst hr0
        refine lv_lstore (lv' := [(4, .long (keyA bf ln)), (3, .int (numA bf ln 2)), (2, .int (numA bf ln 1)), (1, .int (numA bf ln 0)), (0, .ref (q 0))]) hx hb dX5_addGlass_77 hl (by decide) rfl (fun ls hl => ?_)
        refine lv_aload_n hx hb dX5_addGlass_79 rfl (lv_at hl 4 rfl) ?_
        refine va_get (D := (dC, dI)) (ci := 5) (v := .ref (q 3)) (C := RX5) (T := TX5) (N := 5) hx hb hts (by decide +kernel) hown hK hP 0 rfl rfl 1 (by decide) (hts (.fieldLink RX5 19 "AchromatDesk" "glasses" "LAchromatDesk$Catalogue;") (by decide +kernel)) (fun _ h9 => h9) rfl dX5_addGlass_80 ?_
        refine lv_lload hx hb dX5_addGlass_83 (lv_at hl 0 rfl) ?_
        refine roVi (As := [.long (keyA bf ln)]) (rest := []) (c_X0_hasName l dC dI cI cJ q G n hn (keyA bf ln)) ⟨hx, hb, hml, hown, hts⟩ (cwV 1 hts gX5_addGlass_X0_hasName rfl rfl rfl (by decide +kernel) ⟨Nat.le_of_ble_eq_true rfl, Nat.le_of_ble_eq_true rfl⟩) (hP.sub [3, 4, 5, 6, 7] rfl) hK hN (ci := 0) rfl rfl rfl hl.1 rfl (Nat.le_of_ble_eq_true rfl) dX5_addGlass_85 ⟨Nat.zero_le _, Nat.zero_le _⟩ (fun r hr0 => ?_)
        subst hr0
        refine rb_eq (tgt := 95) hx hb dX5_addGlass_88 (by decide) (fun h88 => ?_) (fun h88 => ?_)
        · refine lv_aload_n hx hb dX5_addGlass_95 rfl (lv_at hl 4 rfl) ?_
          refine va_get (D := (dC, dI)) (ci := 5) (v := .ref (q 3)) (C := RX5) (T := TX5) (N := 5) hx hb hts (by decide +kernel) hown hK hP 0 rfl rfl 1 (by decide) (hts (.fieldLink RX5 19 "AchromatDesk" "glasses" "LAchromatDesk$Catalogue;") (by decide +kernel)) (fun _ h9 => h9) rfl dX5_addGlass_96 ?_
          refine lv_lload hx hb dX5_addGlass_99 (lv_at hl 0 rfl) ?_
          refine lv_iload_n hx hb dX5_addGlass_101 rfl (lv_at hl 3 rfl) ?_
          refine lv_iload_n hx hb dX5_addGlass_102 rfl (lv_at hl 2 rfl) ?_
          refine lv_iload_n hx hb dX5_addGlass_103 rfl (lv_at hl 1 rfl) ?_
          refine muVv (As := [.long (keyA bf ln), .int (numA bf ln 0), .int (numA bf ln 1), .int (numA bf ln 2)]) (rest := []) (wr := [(q 0, .inr (5, [.ref (q 1), .ref (q 3), .ref (q 8), .ref (q 14), .ref (q 17)])), (q 1, .inr (2, [.ref (q 2), .int (nI ln)])), (q 2, .inl (cI, 28, .inl bf))]) (c_X0_add l dC dI cI cJ H.size q G n hn (by omega) (keyA bf ln) (numA bf ln 0) (numA bf ln 1) (numA bf ln 2)) ⟨hx, hb, hml, hown, hts⟩ (cwV 4 hts gX5_addGlass_X0_add rfl rfl rfl (by decide +kernel) ⟨Nat.le_of_ble_eq_true rfl, Nat.le_of_ble_eq_true rfl⟩) hP hD hS hA hK hN [3, 4, 5, 6, 7] [0, 1, 2] rfl rfl (by decide) rfl (by decide) (by decide) (ci := 0) rfl rfl rfl hl.1 rfl (Nat.le_of_ble_eq_true rfl) dX5_addGlass_104 ⟨Nat.le_of_ble_eq_true rfl, Nat.le_of_ble_eq_true rfl⟩ (fun _ H locs hr0 hP hD hS => ?_)
          have hP := hP.sub (ws' := [(q 0, .inr (5, [.ref (q 1), .ref (q 3), .ref (q 8), .ref (q 14), .ref (q 17)])), (q 1, .inr (2, [.ref (q 2), .int (nI ln)])), (q 2, .inl (cI, 28, .inl bf)), (q 3, .inr (0, [.ref (q 4), .ref (q 5), .ref (q 6), .ref (q 7), .int (nI (n + 1))])), (q 4, .inl (cJ, 20, .inr (.inl (gK (addG G n (keyA bf ln) (numA bf ln 0) (numA bf ln 1) (numA bf ln 2)))))), (q 5, .inl (cI, 20, .inl (gF (addG G n (keyA bf ln) (numA bf ln 0) (numA bf ln 1) (numA bf ln 2))))), (q 6, .inl (cI, 20, .inl (gD (addG G n (keyA bf ln) (numA bf ln 0) (numA bf ln 1) (numA bf ln 2))))), (q 7, .inl (cI, 20, .inl (gC (addG G n (keyA bf ln) (numA bf ln 0) (numA bf ln 1) (numA bf ln 2)))))]) [0, 1, 2, 3, 4, 5, 6, 7] rfl
          have hD := hD.sub (ws' := [(q 0, .inr (5, [.ref (q 1), .ref (q 3), .ref (q 8), .ref (q 14), .ref (q 17)])), (q 1, .inr (2, [.ref (q 2), .int (nI ln)])), (q 2, .inl (cI, 28, .inl bf)), (q 3, .inr (0, [.ref (q 4), .ref (q 5), .ref (q 6), .ref (q 7), .int (nI (n + 1))])), (q 4, .inl (cJ, 20, .inr (.inl (gK (addG G n (keyA bf ln) (numA bf ln 0) (numA bf ln 1) (numA bf ln 2)))))), (q 5, .inl (cI, 20, .inl (gF (addG G n (keyA bf ln) (numA bf ln 0) (numA bf ln 1) (numA bf ln 2))))), (q 6, .inl (cI, 20, .inl (gD (addG G n (keyA bf ln) (numA bf ln 0) (numA bf ln 1) (numA bf ln 2))))), (q 7, .inl (cI, 20, .inl (gC (addG G n (keyA bf ln) (numA bf ln 0) (numA bf ln 1) (numA bf ln 2)))))]) [0, 1, 2, 3, 4, 5, 6, 7] (by decide) rfl
          refine lv_aload_n hx hb dX5_addGlass_107 rfl (lv_at hl 4 rfl) ?_
          refine va_get (D := (dC, dI)) (ci := 5) (v := .ref (q 1)) (C := RX5) (T := TX5) (N := 5) hx hb hts (by decide +kernel) hown hK hP 0 rfl rfl 0 (by decide) (hts (.fieldLink RX5 12 "AchromatDesk" "buffer" "LAchromatDesk$GlassText;") (by decide +kernel)) (fun _ h9 => h9) rfl dX5_addGlass_108 ?_
          refine muVv (As := []) (rest := []) (wr := [(q 0, .inr (5, [.ref (q 1), .ref (q 3), .ref (q 8), .ref (q 14), .ref (q 17)])), (q 3, .inr (0, [.ref (q 4), .ref (q 5), .ref (q 6), .ref (q 7), .int (nI (n + 1))])), (q 4, .inl (cJ, 20, .inr (.inl (gK (addG G n (keyA bf ln) (numA bf ln 0) (numA bf ln 1) (numA bf ln 2)))))), (q 5, .inl (cI, 20, .inl (gF (addG G n (keyA bf ln) (numA bf ln 0) (numA bf ln 1) (numA bf ln 2))))), (q 6, .inl (cI, 20, .inl (gD (addG G n (keyA bf ln) (numA bf ln 0) (numA bf ln 1) (numA bf ln 2))))), (q 7, .inl (cI, 20, .inl (gC (addG G n (keyA bf ln) (numA bf ln 0) (numA bf ln 1) (numA bf ln 2)))))]) (c_X2_empty l dC dI cI cJ H.size q bf ln hln) ⟨hx, hb, hml, hown, hts⟩ (cwV 0 hts gX5_addGlass_X2_empty rfl rfl rfl (by decide +kernel) ⟨Nat.le_of_ble_eq_true rfl, Nat.le_of_ble_eq_true rfl⟩) hP hD hS hA hK hN [1, 2] [0, 3, 4, 5, 6, 7] rfl rfl (by decide) rfl (by decide) (by decide) (ci := 2) rfl rfl rfl hl.1 rfl (Nat.le_of_ble_eq_true rfl) dX5_addGlass_111 ⟨Nat.le_of_ble_eq_true rfl, Nat.le_of_ble_eq_true rfl⟩ (fun _ H locs hr0 hP hD hS => ?_)
          have hP := hP.sub (ws' := [(q 0, .inr (5, [.ref (q 1), .ref (q 3), .ref (q 8), .ref (q 14), .ref (q 17)])), (q 1, .inr (2, [.ref (q 2), .int (nI 0)])), (q 2, .inl (cI, 28, .inl bf)), (q 3, .inr (0, [.ref (q 4), .ref (q 5), .ref (q 6), .ref (q 7), .int (nI (n + 1))])), (q 4, .inl (cJ, 20, .inr (.inl (gK (addG G n (keyA bf ln) (numA bf ln 0) (numA bf ln 1) (numA bf ln 2)))))), (q 5, .inl (cI, 20, .inl (gF (addG G n (keyA bf ln) (numA bf ln 0) (numA bf ln 1) (numA bf ln 2))))), (q 6, .inl (cI, 20, .inl (gD (addG G n (keyA bf ln) (numA bf ln 0) (numA bf ln 1) (numA bf ln 2))))), (q 7, .inl (cI, 20, .inl (gC (addG G n (keyA bf ln) (numA bf ln 0) (numA bf ln 1) (numA bf ln 2)))))]) [0, 6, 7, 1, 2, 3, 4, 5] rfl
          have hD := hD.sub (ws' := [(q 0, .inr (5, [.ref (q 1), .ref (q 3), .ref (q 8), .ref (q 14), .ref (q 17)])), (q 1, .inr (2, [.ref (q 2), .int (nI 0)])), (q 2, .inl (cI, 28, .inl bf)), (q 3, .inr (0, [.ref (q 4), .ref (q 5), .ref (q 6), .ref (q 7), .int (nI (n + 1))])), (q 4, .inl (cJ, 20, .inr (.inl (gK (addG G n (keyA bf ln) (numA bf ln 0) (numA bf ln 1) (numA bf ln 2)))))), (q 5, .inl (cI, 20, .inl (gF (addG G n (keyA bf ln) (numA bf ln 0) (numA bf ln 1) (numA bf ln 2))))), (q 6, .inl (cI, 20, .inl (gD (addG G n (keyA bf ln) (numA bf ln 0) (numA bf ln 1) (numA bf ln 2))))), (q 7, .inl (cI, 20, .inl (gC (addG G n (keyA bf ln) (numA bf ln 0) (numA bf ln 1) (numA bf ln 2)))))]) [0, 6, 7, 1, 2, 3, 4, 5] (by decide) rfl
          refine lv_aload_n hx hb dX5_addGlass_114 rfl (lv_at hl 4 rfl) ?_
          refine va_get (D := (dC, dI)) (ci := 5) (v := .ref (q 3)) (C := RX5) (T := TX5) (N := 5) hx hb hts (by decide +kernel) hown hK hP 0 rfl rfl 1 (by decide) (hts (.fieldLink RX5 19 "AchromatDesk" "glasses" "LAchromatDesk$Catalogue;") (by decide +kernel)) (fun _ h9 => h9) rfl dX5_addGlass_115 ?_
          refine va_getN (D := (dC, dI)) (ci := 0) (v := .int (nI (n + 1))) (C := RX0) (T := TX0) (N := 5) hx hb hts (by decide +kernel) hown hK hP 3 rfl rfl 4 (by decide) (va_Nw.use (w := .fieldLinkNest "AchromatDesk" 77 "AchromatDesk$Catalogue" "count" "I" "AchromatDesk") rfl (hN.at 2 rfl)) (fun _ h9 => h9) rfl dX5_addGlass_118 ?_
          refine lv_iconst (v := 1) hx hb dX5_addGlass_121 (by decide) ?_
          refine lv_isub hx hb dX5_addGlass_122 ?_
          refine rw_topi (show ((nI (n + 1)) - 1 : Int32) = (nI n : Int32) from nI_pred n) ?_
          refine lv_i2l (v := lN n) hx hb dX5_addGlass_123 (nI_l (by omega)) ?_
          exact W.lret hx hb hr (fun t ht hW => ⟨⟨_, (0, addG G n (keyA bf ln) (numA bf ln 0) (numA bf ln 1) (numA bf ln 2), n + 1), rfl, by rw [sAdG, if_pos h7, if_pos h47, if_neg h63, if_neg h88], by rw [ht]; exact hP, by rw [hAe]; exact hD⟩, hS.F ht⟩) hS.2.2 dX5_addGlass_124
        · refine lv_ldc2 (v := (-9000000000000000006)) hx hb hown (hts (.constantLong RX5 88 (-9000000000000000006)) (by decide +kernel)) dX5_addGlass_91 ?_
          exact W.lret hx hb hr (fun t ht hW => ⟨⟨_, (ln, G, n), rfl, by rw [sAdG, if_pos h7, if_pos h47, if_neg h63, if_pos h88], by rw [ht]; exact hP, by rw [hAe]; exact hD⟩, hS.F ht⟩) hS.2.2 dX5_addGlass_94
      · refine lv_ldc2 (v := (-9000000000000000004)) hx hb hown (hts (.constantLong RX5 50 (-9000000000000000004)) (by decide +kernel)) dX5_addGlass_66 ?_
        exact W.lret hx hb hr (fun t ht hW => ⟨⟨_, (ln, G, n), rfl, by rw [sAdG, if_pos h7, if_pos h47, if_pos h63], by rw [ht]; exact hP, by rw [hAe]; exact hD⟩, hS.F ht⟩) hS.2.2 dX5_addGlass_69
    · refine lv_ldc2 (v := (-9000000000000000001)) hx hb hown (hts (.constantLong RX5 44 (-9000000000000000001)) (by decide +kernel)) dX5_addGlass_50 ?_
      exact W.lret hx hb hr (fun t ht hW => ⟨⟨_, (ln, G, n), rfl, by rw [sAdG, if_pos h7, if_neg h47], by rw [ht]; exact hP, by rw [hAe]; exact hD⟩, hS.F ht⟩) hS.2.2 dX5_addGlass_53
  · refine lv_ldc2 (v := (-9000000000000000005)) hx hb hown (hts (.constantLong RX5 67 (-9000000000000000005)) (by decide +kernel)) dX5_addGlass_10 ?_
    exact W.lret hx hb hr (fun t ht hW => ⟨⟨_, (ln, G, n), rfl, by rw [sAdG, if_neg h7], by rw [ht]; exact hP, by rw [hAe]; exact hD⟩, hS.F ht⟩) hS.2.2 dX5_addGlass_13

set_option maxHeartbeats 4000000 in
set_option maxRecDepth 100000 in
theorem c_X5_removeGlass (l : Launch) (dC : Nat → ClassId) (dI : Nat → Nat → Nat) (cI cJ : ClassId) (sz : Nat) (q : Nat → Nat) (G : GL) (n : Nat) (hn : n ≤ 20) (lg lp : Nat → Int32) (k : Nat) (hk : k ≤ 8) (x : Int32) : Met l yX5_removeGlass wsX5_removeGlass ({ frames := 2, cells := 0, slots := 0, locals := 43 }) (va_Pc [.ref (q 0), .int x] (MU (dC, dI) (tyK cI cJ) ([(q 0, .inr (5, [.ref (q 1), .ref (q 3), .ref (q 8), .ref (q 14), .ref (q 17)])), (q 3, .inr (0, [.ref (q 4), .ref (q 5), .ref (q 6), .ref (q 7), .int (nI n)])), (q 4, .inl (cJ, 20, .inr (.inl (gK G)))), (q 5, .inl (cI, 20, .inl (gF G))), (q 6, .inl (cI, 20, .inl (gD G))), (q 7, .inl (cI, 20, .inl (gC G))), (q 14, .inr (3, [.ref (q 15), .ref (q 16), .int (nI k)])), (q 15, .inl (cI, 8, .inl lg)), (q 16, .inl (cI, 8, .inl lp))]) sz)) (va_Ql (fun r (u : RG) => (r, u) = sRmG G n lg k x) (MB (dC, dI) ([(q 0, .inr (5, [.ref (q 1), .ref (q 3), .ref (q 8), .ref (q 14), .ref (q 17)])), (q 3, .inr (0, [.ref (q 4), .ref (q 5), .ref (q 6), .ref (q 7), .int (nI n)])), (q 4, .inl (cJ, 20, .inr (.inl (gK G)))), (q 5, .inl (cI, 20, .inl (gF G))), (q 6, .inl (cI, 20, .inl (gD G))), (q 7, .inl (cI, 20, .inl (gC G))), (q 14, .inr (3, [.ref (q 15), .ref (q 16), .int (nI k)])), (q 15, .inl (cI, 8, .inl lg)), (q 16, .inl (cI, 8, .inl lp))]) sz (fun (u : RG) => [(q 0, .inr (5, [.ref (q 1), .ref (q 3), .ref (q 8), .ref (q 14), .ref (q 17)])), (q 3, .inr (0, [.ref (q 4), .ref (q 5), .ref (q 6), .ref (q 7), .int (nI u.2.1)])), (q 4, .inl (cJ, 20, .inr (.inl (gK u.1)))), (q 5, .inl (cI, 20, .inl (gF u.1))), (q 6, .inl (cI, 20, .inl (gD u.1))), (q 7, .inl (cI, 20, .inl (gC u.1))), (q 14, .inr (3, [.ref (q 15), .ref (q 16), .int (nI k)])), (q 15, .inl (cI, 8, .inl u.2.2)), (q 16, .inl (cI, 8, .inl lp))])) (va_A ([(q 0, .inr (5, [.ref (q 1), .ref (q 3), .ref (q 8), .ref (q 14), .ref (q 17)])), (q 3, .inr (0, [.ref (q 4), .ref (q 5), .ref (q 6), .ref (q 7), .int (nI n)])), (q 4, .inl (cJ, 20, .inr (.inl (gK G)))), (q 5, .inl (cI, 20, .inl (gF G))), (q 6, .inl (cI, 20, .inl (gD G))), (q 7, .inl (cI, 20, .inl (gC G))), (q 14, .inr (3, [.ref (q 15), .ref (q 16), .int (nI k)])), (q 15, .inl (cI, 8, .inl lg)), (q 16, .inl (cI, 8, .inl lp))]) sz)) 0 0 (va_A ([(q 0, .inr (5, [.ref (q 1), .ref (q 3), .ref (q 8), .ref (q 14), .ref (q 17)])), (q 3, .inr (0, [.ref (q 4), .ref (q 5), .ref (q 6), .ref (q 7), .int (nI n)])), (q 4, .inl (cJ, 20, .inr (.inl (gK G)))), (q 5, .inl (cI, 20, .inl (gF G))), (q 6, .inl (cI, 20, .inl (gD G))), (q 7, .inl (cI, 20, .inl (gC G))), (q 14, .inr (3, [.ref (q 15), .ref (q 16), .int (nI k)])), (q 15, .inl (cI, 8, .inl lg)), (q 16, .inl (cI, 8, .inl lp))]) sz) := by
  refine Met.ofW (cc := cX5_removeGlass) (maxL := 2) (ret := (some .long)) (by decide) rfl ?_
  intro p e s m args below meth c s₁ B hml hv
  obtain ⟨rfl, hsz, hP, hK, hN, hD0⟩ := hv
  have hx := B.exec
  have hb := B.bytes
  have hr := B.returns
  have hts := atoms_spec (ws := wsX5_removeGlass) B.pre
  have hown : s.vm.findClass RX5 = some m.cls := findClass_of_methodNamed B.named
  have hlocks := B.notSynchronized
  subst hsz
  have hD := hD0.self (sz := s.heap.size)
  generalize hAe : va_A ([(q 0, .inr (5, [.ref (q 1), .ref (q 3), .ref (q 8), .ref (q 14), .ref (q 17)])), (q 3, .inr (0, [.ref (q 4), .ref (q 5), .ref (q 6), .ref (q 7), .int (nI n)])), (q 4, .inl (cJ, 20, .inr (.inl (gK G)))), (q 5, .inl (cI, 20, .inl (gF G))), (q 6, .inl (cI, 20, .inl (gD G))), (q 7, .inl (cI, 20, .inl (gC G))), (q 14, .inr (3, [.ref (q 15), .ref (q 16), .int (nI k)])), (q 15, .inl (cI, 8, .inl lg)), (q 16, .inl (cI, 8, .inl lp))]) s.heap.size = A at hD ⊢
  have hA : ∀ q : Nat, s.heap.size ≤ q → A q := fun q h => by rw [← hAe]; exact Or.inr h
  have hS : va_S A s.heap s.heap [] := va_S.rf
  have hP : va_P (dC, dI) vwCl [(q 0, .inr (5, [.ref (q 1), .ref (q 3), .ref (q 8), .ref (q 14), .ref (q 17)])), (q 3, .inr (0, [.ref (q 4), .ref (q 5), .ref (q 6), .ref (q 7), .int (nI n)])), (q 4, .inl (cJ, 20, .inr (.inl (gK G)))), (q 5, .inl (cI, 20, .inl (gF G))), (q 6, .inl (cI, 20, .inl (gD G))), (q 7, .inl (cI, 20, .inl (gC G))), (q 14, .inr (3, [.ref (q 15), .ref (q 16), .int (nI k)])), (q 15, .inl (cI, 8, .inl lg)), (q 16, .inl (cI, 8, .inl lp))] s.heap := hP
  have hD : va_D A [(q 0, .inr (5, [.ref (q 1), .ref (q 3), .ref (q 8), .ref (q 14), .ref (q 17)])), (q 3, .inr (0, [.ref (q 4), .ref (q 5), .ref (q 6), .ref (q 7), .int (nI n)])), (q 4, .inl (cJ, 20, .inr (.inl (gK G)))), (q 5, .inl (cI, 20, .inl (gF G))), (q 6, .inl (cI, 20, .inl (gD G))), (q 7, .inl (cI, 20, .inl (gC G))), (q 14, .inr (3, [.ref (q 15), .ref (q 16), .int (nI k)])), (q 15, .inl (cI, 8, .inl lg)), (q 16, .inl (cI, 8, .inl lp))] := hD
  obtain ⟨H, hH⟩ : ∃ H : Heap, H = s.heap := ⟨_, rfl⟩
  obtain ⟨locs, hlc⟩ : ∃ locs : List Loc, locs = [] := ⟨_, rfl⟩
  have hl := lv_entry ([.ref (q 0), .int x]) (n := 2) (Nat.le_of_ble_eq_true rfl)
  rw [lg_entry_eq]
  generalize (lg_sl ([.ref (q 0), .int x]) ++ List.replicate (2 - (lg_sl ([.ref (q 0), .int x])).length) Slot.unset).toArray = ls at hl ⊢
  have hl : lv_has ls 2 [(0, .ref (q 0)), (1, .int x)] := hl
  refine mu_in hH hlc (fun hS hP hD => ?_) hS hP hD
  clear hH hlc
  refine lv_aload_n hx hb dX5_removeGlass_0 rfl (lv_at hl 0 rfl) ?_
  refine va_get (D := (dC, dI)) (ci := 5) (v := .ref (q 3)) (C := RX5) (T := TX5) (N := 5) hx hb hts (by decide +kernel) hown hK hP 0 rfl rfl 1 (by decide) (hts (.fieldLink RX5 19 "AchromatDesk" "glasses" "LAchromatDesk$Catalogue;") (by decide +kernel)) (fun _ h9 => h9) rfl dX5_removeGlass_1 ?_
  refine lv_iload_n hx hb dX5_removeGlass_4 rfl (lv_at hl 1 rfl) ?_
  refine roVi (As := [.int x]) (rest := []) (c_X0_has l dC dI cI cJ q G n hn x) ⟨hx, hb, hml, hown, hts⟩ (cwV 1 hts gX5_removeGlass_X0_has rfl rfl rfl (by decide +kernel) ⟨Nat.le_of_ble_eq_true rfl, Nat.le_of_ble_eq_true rfl⟩) (hP.sub [1, 2, 3, 4, 5] rfl) hK hN (ci := 0) rfl rfl rfl hl.1 rfl (Nat.le_of_ble_eq_true rfl) dX5_removeGlass_5 ⟨Nat.zero_le _, Nat.zero_le _⟩ (fun r hr0 => ?_)
  subst hr0
  refine rb_ne (tgt := 15) hx hb dX5_removeGlass_8 (by decide) (fun h8 => ?_) (fun h8 => ?_)
  · obtain ⟨g, hg, eg⟩ := hasP_ex (by omega) h8
    subst eg
    refine lv_aload_n hx hb dX5_removeGlass_15 rfl (lv_at hl 0 rfl) ?_
    refine va_get (D := (dC, dI)) (ci := 5) (v := .ref (q 14)) (C := RX5) (T := TX5) (N := 5) hx hb hts (by decide +kernel) hown hK hP 0 rfl rfl 3 (by decide) (hts (.fieldLink RX5 33 "AchromatDesk" "system" "LAchromatDesk$LensSystem;") (by decide +kernel)) (fun _ h9 => h9) rfl dX5_removeGlass_16 ?_
    refine lv_iload_n hx hb dX5_removeGlass_19 rfl (lv_at hl 1 rfl) ?_
    refine roVi (As := [.int (nI g)]) (rest := []) (c_X3_uses l dC dI cI cJ q lg lp k hk (nI g)) ⟨hx, hb, hml, hown, hts⟩ (cwV 1 hts gX5_removeGlass_X3_uses rfl rfl rfl (by decide +kernel) ⟨Nat.le_of_ble_eq_true rfl, Nat.le_of_ble_eq_true rfl⟩) (hP.sub [6, 7, 8] rfl) hK hN (ci := 3) rfl rfl rfl hl.1 rfl (Nat.le_of_ble_eq_true rfl) dX5_removeGlass_20 ⟨Nat.zero_le _, Nat.zero_le _⟩ (fun r hr0 => ?_)
    subst hr0
    refine rb_eq (tgt := 30) hx hb dX5_removeGlass_23 (by decide) (fun h23 => ?_) (fun h23 => ?_)
    · refine lv_aload_n hx hb dX5_removeGlass_30 rfl (lv_at hl 0 rfl) ?_
      refine va_get (D := (dC, dI)) (ci := 5) (v := .ref (q 3)) (C := RX5) (T := TX5) (N := 5) hx hb hts (by decide +kernel) hown hK hP 0 rfl rfl 1 (by decide) (hts (.fieldLink RX5 19 "AchromatDesk" "glasses" "LAchromatDesk$Catalogue;") (by decide +kernel)) (fun _ h9 => h9) rfl dX5_removeGlass_31 ?_
      refine lv_iload_n hx hb dX5_removeGlass_34 rfl (lv_at hl 1 rfl) ?_
      refine muVv (As := [.int (nI g)]) (rest := []) (wr := [(q 0, .inr (5, [.ref (q 1), .ref (q 3), .ref (q 8), .ref (q 14), .ref (q 17)])), (q 14, .inr (3, [.ref (q 15), .ref (q 16), .int (nI k)])), (q 15, .inl (cI, 8, .inl lg)), (q 16, .inl (cI, 8, .inl lp))]) (c_X0_remove l dC dI cI cJ H.size q G n hn g (by omega)) ⟨hx, hb, hml, hown, hts⟩ (cwV 1 hts gX5_removeGlass_X0_remove rfl rfl rfl (by decide +kernel) ⟨Nat.le_of_ble_eq_true rfl, Nat.le_of_ble_eq_true rfl⟩) hP hD hS hA hK hN [1, 2, 3, 4, 5] [0, 6, 7, 8] rfl rfl (by decide) rfl (by decide) (by decide) (ci := 0) rfl rfl rfl hl.1 rfl (Nat.le_of_ble_eq_true rfl) dX5_removeGlass_35 ⟨Nat.le_of_ble_eq_true rfl, Nat.le_of_ble_eq_true rfl⟩ (fun _ H locs hr0 hP hD hS => ?_)
      have hP := hP.sub (ws' := [(q 0, .inr (5, [.ref (q 1), .ref (q 3), .ref (q 8), .ref (q 14), .ref (q 17)])), (q 3, .inr (0, [.ref (q 4), .ref (q 5), .ref (q 6), .ref (q 7), .int (nI (n - 1))])), (q 4, .inl (cJ, 20, .inr (.inl (gK (rmG G g n))))), (q 5, .inl (cI, 20, .inl (gF (rmG G g n)))), (q 6, .inl (cI, 20, .inl (gD (rmG G g n)))), (q 7, .inl (cI, 20, .inl (gC (rmG G g n)))), (q 14, .inr (3, [.ref (q 15), .ref (q 16), .int (nI k)])), (q 15, .inl (cI, 8, .inl lg)), (q 16, .inl (cI, 8, .inl lp))]) [0, 4, 5, 6, 7, 8, 1, 2, 3] rfl
      have hD := hD.sub (ws' := [(q 0, .inr (5, [.ref (q 1), .ref (q 3), .ref (q 8), .ref (q 14), .ref (q 17)])), (q 3, .inr (0, [.ref (q 4), .ref (q 5), .ref (q 6), .ref (q 7), .int (nI (n - 1))])), (q 4, .inl (cJ, 20, .inr (.inl (gK (rmG G g n))))), (q 5, .inl (cI, 20, .inl (gF (rmG G g n)))), (q 6, .inl (cI, 20, .inl (gD (rmG G g n)))), (q 7, .inl (cI, 20, .inl (gC (rmG G g n)))), (q 14, .inr (3, [.ref (q 15), .ref (q 16), .int (nI k)])), (q 15, .inl (cI, 8, .inl lg)), (q 16, .inl (cI, 8, .inl lp))]) [0, 4, 5, 6, 7, 8, 1, 2, 3] (by decide) rfl
      refine lv_aload_n hx hb dX5_removeGlass_38 rfl (lv_at hl 0 rfl) ?_
      refine va_get (D := (dC, dI)) (ci := 5) (v := .ref (q 14)) (C := RX5) (T := TX5) (N := 5) hx hb hts (by decide +kernel) hown hK hP 0 rfl rfl 3 (by decide) (hts (.fieldLink RX5 33 "AchromatDesk" "system" "LAchromatDesk$LensSystem;") (by decide +kernel)) (fun _ h9 => h9) rfl dX5_removeGlass_39 ?_
      refine lv_iload_n hx hb dX5_removeGlass_42 rfl (lv_at hl 1 rfl) ?_
      refine muVv (As := [.int (nI g)]) (rest := []) (wr := [(q 0, .inr (5, [.ref (q 1), .ref (q 3), .ref (q 8), .ref (q 14), .ref (q 17)])), (q 3, .inr (0, [.ref (q 4), .ref (q 5), .ref (q 6), .ref (q 7), .int (nI (n - 1))])), (q 4, .inl (cJ, 20, .inr (.inl (gK (rmG G g n))))), (q 5, .inl (cI, 20, .inl (gF (rmG G g n)))), (q 6, .inl (cI, 20, .inl (gD (rmG G g n)))), (q 7, .inl (cI, 20, .inl (gC (rmG G g n))))]) (c_X3_closeGapAt l dC dI cI cJ H.size q lg lp k hk (nI g)) ⟨hx, hb, hml, hown, hts⟩ (cwV 1 hts gX5_removeGlass_X3_closeGapAt rfl rfl rfl (by decide +kernel) ⟨Nat.le_of_ble_eq_true rfl, Nat.le_of_ble_eq_true rfl⟩) hP hD hS hA hK hN [6, 7, 8] [0, 1, 2, 3, 4, 5] rfl rfl (by decide) rfl (by decide) (by decide) (ci := 3) rfl rfl rfl hl.1 rfl (Nat.le_of_ble_eq_true rfl) dX5_removeGlass_43 ⟨Nat.le_of_ble_eq_true rfl, Nat.le_of_ble_eq_true rfl⟩ (fun _ H locs hr0 hP hD hS => ?_)
      have hP := hP.sub (ws' := [(q 0, .inr (5, [.ref (q 1), .ref (q 3), .ref (q 8), .ref (q 14), .ref (q 17)])), (q 3, .inr (0, [.ref (q 4), .ref (q 5), .ref (q 6), .ref (q 7), .int (nI (n - 1))])), (q 4, .inl (cJ, 20, .inr (.inl (gK (rmG G g n))))), (q 5, .inl (cI, 20, .inl (gF (rmG G g n)))), (q 6, .inl (cI, 20, .inl (gD (rmG G g n)))), (q 7, .inl (cI, 20, .inl (gC (rmG G g n)))), (q 14, .inr (3, [.ref (q 15), .ref (q 16), .int (nI k)])), (q 15, .inl (cI, 8, .inl (cg lg (nI g) k))), (q 16, .inl (cI, 8, .inl lp))]) [0, 1, 2, 3, 4, 5, 6, 7, 8] rfl
      have hD := hD.sub (ws' := [(q 0, .inr (5, [.ref (q 1), .ref (q 3), .ref (q 8), .ref (q 14), .ref (q 17)])), (q 3, .inr (0, [.ref (q 4), .ref (q 5), .ref (q 6), .ref (q 7), .int (nI (n - 1))])), (q 4, .inl (cJ, 20, .inr (.inl (gK (rmG G g n))))), (q 5, .inl (cI, 20, .inl (gF (rmG G g n)))), (q 6, .inl (cI, 20, .inl (gD (rmG G g n)))), (q 7, .inl (cI, 20, .inl (gC (rmG G g n)))), (q 14, .inr (3, [.ref (q 15), .ref (q 16), .int (nI k)])), (q 15, .inl (cI, 8, .inl (cg lg (nI g) k))), (q 16, .inl (cI, 8, .inl lp))]) [0, 1, 2, 3, 4, 5, 6, 7, 8] (by decide) rfl
      refine lv_aload_n hx hb dX5_removeGlass_46 rfl (lv_at hl 0 rfl) ?_
      refine va_get (D := (dC, dI)) (ci := 5) (v := .ref (q 3)) (C := RX5) (T := TX5) (N := 5) hx hb hts (by decide +kernel) hown hK hP 0 rfl rfl 1 (by decide) (hts (.fieldLink RX5 19 "AchromatDesk" "glasses" "LAchromatDesk$Catalogue;") (by decide +kernel)) (fun _ h9 => h9) rfl dX5_removeGlass_47 ?_
      refine va_getN (D := (dC, dI)) (ci := 0) (v := .int (nI (n - 1))) (C := RX0) (T := TX0) (N := 5) hx hb hts (by decide +kernel) hown hK hP 1 rfl rfl 4 (by decide) (va_Nw.use (w := .fieldLinkNest "AchromatDesk" 77 "AchromatDesk$Catalogue" "count" "I" "AchromatDesk") rfl (hN.at 2 rfl)) (fun _ h9 => h9) rfl dX5_removeGlass_50 ?_
      refine lv_i2l (v := lN (n - 1)) hx hb dX5_removeGlass_53 (nI_l (by omega)) ?_
      exact W.lret hx hb hr (fun t ht hW => ⟨⟨_, (rmG G g n, n - 1, cg lg (nI g) k), rfl, by rw [sRmG, if_pos h8, if_neg h23, ix_nI (by omega)], by rw [ht]; exact hP, by rw [hAe]; exact hD⟩, hS.F ht⟩) hS.2.2 dX5_removeGlass_54
    · refine lv_ldc2 (v := (-9000000000000000007)) hx hb hown (hts (.constantLong RX5 102 (-9000000000000000007)) (by decide +kernel)) dX5_removeGlass_26 ?_
      exact W.lret hx hb hr (fun t ht hW => ⟨⟨_, (G, n, lg), rfl, by rw [sRmG, if_pos h8, if_pos h23], by rw [ht]; exact hP, by rw [hAe]; exact hD⟩, hS.F ht⟩) hS.2.2 dX5_removeGlass_29
  · refine lv_ldc2 (v := (-9000000000000000002)) hx hb hown (hts (.constantLong RX5 97 (-9000000000000000002)) (by decide +kernel)) dX5_removeGlass_11 ?_
    exact W.lret hx hb hr (fun t ht hW => ⟨⟨_, (G, n, lg), rfl, by rw [sRmG, if_neg h8], by rw [ht]; exact hP, by rw [hAe]; exact hD⟩, hS.F ht⟩) hS.2.2 dX5_removeGlass_14

set_option maxHeartbeats 4000000 in
set_option maxRecDepth 100000 in
theorem c_X5_addLens (l : Launch) (dC : Nat → ClassId) (dI : Nat → Nat → Nat) (cI cJ : ClassId) (sz : Nat) (q : Nat → Nat) (G : GL) (n : Nat) (hn : n ≤ 20) (lg lp : Nat → Int32) (k : Nat) (hk : k ≤ 8) (x y : Int32) : Met l yX5_addLens wsX5_addLens ({ frames := 1, cells := 0, slots := 0, locals := 22 }) (va_Pc [.ref (q 0), .int x, .int y] (MU (dC, dI) (tyK cI cJ) ([(q 0, .inr (5, [.ref (q 1), .ref (q 3), .ref (q 8), .ref (q 14), .ref (q 17)])), (q 3, .inr (0, [.ref (q 4), .ref (q 5), .ref (q 6), .ref (q 7), .int (nI n)])), (q 4, .inl (cJ, 20, .inr (.inl (gK G)))), (q 5, .inl (cI, 20, .inl (gF G))), (q 6, .inl (cI, 20, .inl (gD G))), (q 7, .inl (cI, 20, .inl (gC G))), (q 14, .inr (3, [.ref (q 15), .ref (q 16), .int (nI k)])), (q 15, .inl (cI, 8, .inl lg)), (q 16, .inl (cI, 8, .inl lp))]) sz)) (va_Ql (fun r (u : LE) => (r, u) = sAdL n lg lp k x y) (MB (dC, dI) ([(q 0, .inr (5, [.ref (q 1), .ref (q 3), .ref (q 8), .ref (q 14), .ref (q 17)])), (q 3, .inr (0, [.ref (q 4), .ref (q 5), .ref (q 6), .ref (q 7), .int (nI n)])), (q 4, .inl (cJ, 20, .inr (.inl (gK G)))), (q 5, .inl (cI, 20, .inl (gF G))), (q 6, .inl (cI, 20, .inl (gD G))), (q 7, .inl (cI, 20, .inl (gC G))), (q 14, .inr (3, [.ref (q 15), .ref (q 16), .int (nI k)])), (q 15, .inl (cI, 8, .inl lg)), (q 16, .inl (cI, 8, .inl lp))]) sz (fun (u : LE) => [(q 0, .inr (5, [.ref (q 1), .ref (q 3), .ref (q 8), .ref (q 14), .ref (q 17)])), (q 3, .inr (0, [.ref (q 4), .ref (q 5), .ref (q 6), .ref (q 7), .int (nI n)])), (q 4, .inl (cJ, 20, .inr (.inl (gK G)))), (q 5, .inl (cI, 20, .inl (gF G))), (q 6, .inl (cI, 20, .inl (gD G))), (q 7, .inl (cI, 20, .inl (gC G))), (q 14, .inr (3, [.ref (q 15), .ref (q 16), .int (nI u.2.2)])), (q 15, .inl (cI, 8, .inl u.1)), (q 16, .inl (cI, 8, .inl u.2.1))])) (va_A ([(q 0, .inr (5, [.ref (q 1), .ref (q 3), .ref (q 8), .ref (q 14), .ref (q 17)])), (q 3, .inr (0, [.ref (q 4), .ref (q 5), .ref (q 6), .ref (q 7), .int (nI n)])), (q 4, .inl (cJ, 20, .inr (.inl (gK G)))), (q 5, .inl (cI, 20, .inl (gF G))), (q 6, .inl (cI, 20, .inl (gD G))), (q 7, .inl (cI, 20, .inl (gC G))), (q 14, .inr (3, [.ref (q 15), .ref (q 16), .int (nI k)])), (q 15, .inl (cI, 8, .inl lg)), (q 16, .inl (cI, 8, .inl lp))]) sz)) 0 0 (va_A ([(q 0, .inr (5, [.ref (q 1), .ref (q 3), .ref (q 8), .ref (q 14), .ref (q 17)])), (q 3, .inr (0, [.ref (q 4), .ref (q 5), .ref (q 6), .ref (q 7), .int (nI n)])), (q 4, .inl (cJ, 20, .inr (.inl (gK G)))), (q 5, .inl (cI, 20, .inl (gF G))), (q 6, .inl (cI, 20, .inl (gD G))), (q 7, .inl (cI, 20, .inl (gC G))), (q 14, .inr (3, [.ref (q 15), .ref (q 16), .int (nI k)])), (q 15, .inl (cI, 8, .inl lg)), (q 16, .inl (cI, 8, .inl lp))]) sz) := by
  refine Met.ofW (cc := cX5_addLens) (maxL := 3) (ret := (some .long)) (by decide) rfl ?_
  intro p e s m args below meth c s₁ B hml hv
  obtain ⟨rfl, hsz, hP, hK, hN, hD0⟩ := hv
  have hx := B.exec
  have hb := B.bytes
  have hr := B.returns
  have hts := atoms_spec (ws := wsX5_addLens) B.pre
  have hown : s.vm.findClass RX5 = some m.cls := findClass_of_methodNamed B.named
  have hlocks := B.notSynchronized
  subst hsz
  have hD := hD0.self (sz := s.heap.size)
  generalize hAe : va_A ([(q 0, .inr (5, [.ref (q 1), .ref (q 3), .ref (q 8), .ref (q 14), .ref (q 17)])), (q 3, .inr (0, [.ref (q 4), .ref (q 5), .ref (q 6), .ref (q 7), .int (nI n)])), (q 4, .inl (cJ, 20, .inr (.inl (gK G)))), (q 5, .inl (cI, 20, .inl (gF G))), (q 6, .inl (cI, 20, .inl (gD G))), (q 7, .inl (cI, 20, .inl (gC G))), (q 14, .inr (3, [.ref (q 15), .ref (q 16), .int (nI k)])), (q 15, .inl (cI, 8, .inl lg)), (q 16, .inl (cI, 8, .inl lp))]) s.heap.size = A at hD ⊢
  have hA : ∀ q : Nat, s.heap.size ≤ q → A q := fun q h => by rw [← hAe]; exact Or.inr h
  have hS : va_S A s.heap s.heap [] := va_S.rf
  have hP : va_P (dC, dI) vwCl [(q 0, .inr (5, [.ref (q 1), .ref (q 3), .ref (q 8), .ref (q 14), .ref (q 17)])), (q 3, .inr (0, [.ref (q 4), .ref (q 5), .ref (q 6), .ref (q 7), .int (nI n)])), (q 4, .inl (cJ, 20, .inr (.inl (gK G)))), (q 5, .inl (cI, 20, .inl (gF G))), (q 6, .inl (cI, 20, .inl (gD G))), (q 7, .inl (cI, 20, .inl (gC G))), (q 14, .inr (3, [.ref (q 15), .ref (q 16), .int (nI k)])), (q 15, .inl (cI, 8, .inl lg)), (q 16, .inl (cI, 8, .inl lp))] s.heap := hP
  have hD : va_D A [(q 0, .inr (5, [.ref (q 1), .ref (q 3), .ref (q 8), .ref (q 14), .ref (q 17)])), (q 3, .inr (0, [.ref (q 4), .ref (q 5), .ref (q 6), .ref (q 7), .int (nI n)])), (q 4, .inl (cJ, 20, .inr (.inl (gK G)))), (q 5, .inl (cI, 20, .inl (gF G))), (q 6, .inl (cI, 20, .inl (gD G))), (q 7, .inl (cI, 20, .inl (gC G))), (q 14, .inr (3, [.ref (q 15), .ref (q 16), .int (nI k)])), (q 15, .inl (cI, 8, .inl lg)), (q 16, .inl (cI, 8, .inl lp))] := hD
  obtain ⟨H, hH⟩ : ∃ H : Heap, H = s.heap := ⟨_, rfl⟩
  obtain ⟨locs, hlc⟩ : ∃ locs : List Loc, locs = [] := ⟨_, rfl⟩
  have hl := lv_entry ([.ref (q 0), .int x, .int y]) (n := 3) (Nat.le_of_ble_eq_true rfl)
  rw [lg_entry_eq]
  generalize (lg_sl ([.ref (q 0), .int x, .int y]) ++ List.replicate (3 - (lg_sl ([.ref (q 0), .int x, .int y])).length) Slot.unset).toArray = ls at hl ⊢
  have hl : lv_has ls 3 [(0, .ref (q 0)), (1, .int x), (2, .int y)] := hl
  refine mu_in hH hlc (fun hS hP hD => ?_) hS hP hD
  clear hH hlc
  refine lv_aload_n hx hb dX5_addLens_0 rfl (lv_at hl 0 rfl) ?_
  refine va_get (D := (dC, dI)) (ci := 5) (v := .ref (q 3)) (C := RX5) (T := TX5) (N := 5) hx hb hts (by decide +kernel) hown hK hP 0 rfl rfl 1 (by decide) (hts (.fieldLink RX5 19 "AchromatDesk" "glasses" "LAchromatDesk$Catalogue;") (by decide +kernel)) (fun _ h9 => h9) rfl dX5_addLens_1 ?_
  refine lv_iload_n hx hb dX5_addLens_4 rfl (lv_at hl 1 rfl) ?_
  refine roVi (As := [.int x]) (rest := []) (c_X0_has l dC dI cI cJ q G n hn x) ⟨hx, hb, hml, hown, hts⟩ (cwV 1 hts gX5_addLens_X0_has rfl rfl rfl (by decide +kernel) ⟨Nat.le_of_ble_eq_true rfl, Nat.le_of_ble_eq_true rfl⟩) (hP.sub [1, 2, 3, 4, 5] rfl) hK hN (ci := 0) rfl rfl rfl hl.1 rfl (Nat.le_of_ble_eq_true rfl) dX5_addLens_5 ⟨Nat.zero_le _, Nat.zero_le _⟩ (fun r hr0 => ?_)
  subst hr0
  refine rb_ne (tgt := 15) hx hb dX5_addLens_8 (by decide) (fun h8 => ?_) (fun h8 => ?_)
  · refine lv_iload_n hx hb dX5_addLens_15 rfl (lv_at hl 2 rfl) ?_
    refine lv_ldc (v := (-10000000)) hx hb hown (hts (.constant RX5 176 (-10000000)) (by decide +kernel)) dX5_addLens_16 ?_
    refine lv_icmp_lt (tgt := 27) hx hb dX5_addLens_18 (by decide) (fun h18 => ?_) (fun h18 => ?_)
    · refine lv_ldc2 (v := (-9000000000000000001)) hx hb hown (hts (.constantLong RX5 44 (-9000000000000000001)) (by decide +kernel)) dX5_addLens_27 ?_
      exact W.lret hx hb hr (fun t ht hW => ⟨⟨_, (lg, lp, k), rfl, by rw [sAdL, if_pos h8, if_neg (fun w => absurd w.1 (Int32.not_le.mpr h18))], by rw [ht]; exact hP, by rw [hAe]; exact hD⟩, hS.F ht⟩) hS.2.2 dX5_addLens_30
    · refine lv_iload_n hx hb dX5_addLens_21 rfl (lv_at hl 2 rfl) ?_
      refine lv_ldc (v := 10000000) hx hb hown (hts (.constant RX5 177 (10000000)) (by decide +kernel)) dX5_addLens_22 ?_
      refine lv_icmp_le (tgt := 31) hx hb dX5_addLens_24 (by decide) (fun h24 => ?_) (fun h24 => ?_)
      · refine lv_aload_n hx hb dX5_addLens_31 rfl (lv_at hl 0 rfl) ?_
        refine va_get (D := (dC, dI)) (ci := 5) (v := .ref (q 14)) (C := RX5) (T := TX5) (N := 5) hx hb hts (by decide +kernel) hown hK hP 0 rfl rfl 3 (by decide) (hts (.fieldLink RX5 33 "AchromatDesk" "system" "LAchromatDesk$LensSystem;") (by decide +kernel)) (fun _ h9 => h9) rfl dX5_addLens_32 ?_
        refine va_getN (D := (dC, dI)) (ci := 3) (v := .int (nI k)) (C := RX3) (T := TX3) (N := 3) hx hb hts (by decide +kernel) hown hK hP 6 rfl rfl 2 (by decide) (va_Nw.use (w := .fieldLinkNest "AchromatDesk" 178 "AchromatDesk$LensSystem" "count" "I" "AchromatDesk") rfl (hN.at 4 rfl)) (fun _ h9 => h9) rfl dX5_addLens_35 ?_
        refine lv_bipush (v := 8) hx hb dX5_addLens_38 (by decide) ?_
        refine rn_ne (tgt := 47) hx hb k 8 rfl rfl (by omega) (by omega) dX5_addLens_40 (by decide) (fun h40 => ?_) (fun h40 => ?_)
        · refine lv_aload_n hx hb dX5_addLens_47 rfl (lv_at hl 0 rfl) ?_
          refine va_get (D := (dC, dI)) (ci := 5) (v := .ref (q 14)) (C := RX5) (T := TX5) (N := 5) hx hb hts (by decide +kernel) hown hK hP 0 rfl rfl 3 (by decide) (hts (.fieldLink RX5 33 "AchromatDesk" "system" "LAchromatDesk$LensSystem;") (by decide +kernel)) (fun _ h9 => h9) rfl dX5_addLens_48 ?_
          refine lv_iload_n hx hb dX5_addLens_51 rfl (lv_at hl 1 rfl) ?_
          refine lv_iload_n hx hb dX5_addLens_52 rfl (lv_at hl 2 rfl) ?_
          refine muVv (As := [.int x, .int y]) (rest := []) (wr := [(q 0, .inr (5, [.ref (q 1), .ref (q 3), .ref (q 8), .ref (q 14), .ref (q 17)])), (q 3, .inr (0, [.ref (q 4), .ref (q 5), .ref (q 6), .ref (q 7), .int (nI n)])), (q 4, .inl (cJ, 20, .inr (.inl (gK G)))), (q 5, .inl (cI, 20, .inl (gF G))), (q 6, .inl (cI, 20, .inl (gD G))), (q 7, .inl (cI, 20, .inl (gC G)))]) (c_X3_add l dC dI cI cJ H.size q lg lp k hk (by omega) x y) ⟨hx, hb, hml, hown, hts⟩ (cwV 2 hts gX5_addLens_X3_add rfl rfl rfl (by decide +kernel) ⟨Nat.le_of_ble_eq_true rfl, Nat.le_of_ble_eq_true rfl⟩) hP hD hS hA hK hN [6, 7, 8] [0, 1, 2, 3, 4, 5] rfl rfl (by decide) rfl (by decide) (by decide) (ci := 3) rfl rfl rfl hl.1 rfl (Nat.le_of_ble_eq_true rfl) dX5_addLens_53 ⟨Nat.le_of_ble_eq_true rfl, Nat.le_of_ble_eq_true rfl⟩ (fun _ H locs hr0 hP hD hS => ?_)
          have hP := hP.sub (ws' := [(q 0, .inr (5, [.ref (q 1), .ref (q 3), .ref (q 8), .ref (q 14), .ref (q 17)])), (q 3, .inr (0, [.ref (q 4), .ref (q 5), .ref (q 6), .ref (q 7), .int (nI n)])), (q 4, .inl (cJ, 20, .inr (.inl (gK G)))), (q 5, .inl (cI, 20, .inl (gF G))), (q 6, .inl (cI, 20, .inl (gD G))), (q 7, .inl (cI, 20, .inl (gC G))), (q 14, .inr (3, [.ref (q 15), .ref (q 16), .int (nI (k + 1))])), (q 15, .inl (cI, 8, .inl (upd lg k x))), (q 16, .inl (cI, 8, .inl (upd lp k y)))]) [0, 1, 2, 3, 4, 5, 6, 7, 8] rfl
          have hD := hD.sub (ws' := [(q 0, .inr (5, [.ref (q 1), .ref (q 3), .ref (q 8), .ref (q 14), .ref (q 17)])), (q 3, .inr (0, [.ref (q 4), .ref (q 5), .ref (q 6), .ref (q 7), .int (nI n)])), (q 4, .inl (cJ, 20, .inr (.inl (gK G)))), (q 5, .inl (cI, 20, .inl (gF G))), (q 6, .inl (cI, 20, .inl (gD G))), (q 7, .inl (cI, 20, .inl (gC G))), (q 14, .inr (3, [.ref (q 15), .ref (q 16), .int (nI (k + 1))])), (q 15, .inl (cI, 8, .inl (upd lg k x))), (q 16, .inl (cI, 8, .inl (upd lp k y)))]) [0, 1, 2, 3, 4, 5, 6, 7, 8] (by decide) rfl
          refine lv_aload_n hx hb dX5_addLens_56 rfl (lv_at hl 0 rfl) ?_
          refine va_get (D := (dC, dI)) (ci := 5) (v := .ref (q 14)) (C := RX5) (T := TX5) (N := 5) hx hb hts (by decide +kernel) hown hK hP 0 rfl rfl 3 (by decide) (hts (.fieldLink RX5 33 "AchromatDesk" "system" "LAchromatDesk$LensSystem;") (by decide +kernel)) (fun _ h9 => h9) rfl dX5_addLens_57 ?_
          refine va_getN (D := (dC, dI)) (ci := 3) (v := .int (nI (k + 1))) (C := RX3) (T := TX3) (N := 3) hx hb hts (by decide +kernel) hown hK hP 6 rfl rfl 2 (by decide) (va_Nw.use (w := .fieldLinkNest "AchromatDesk" 178 "AchromatDesk$LensSystem" "count" "I" "AchromatDesk") rfl (hN.at 4 rfl)) (fun _ h9 => h9) rfl dX5_addLens_60 ?_
          refine lv_iconst (v := 1) hx hb dX5_addLens_63 (by decide) ?_
          refine lv_isub hx hb dX5_addLens_64 ?_
          refine rw_topi (show ((nI (k + 1)) - 1 : Int32) = (nI k : Int32) from nI_pred k) ?_
          refine lv_i2l (v := lN k) hx hb dX5_addLens_65 (nI_l (by omega)) ?_
          exact W.lret hx hb hr (fun t ht hW => ⟨⟨_, (upd lg k x, upd lp k y, k + 1), rfl, by rw [sAdL, if_pos h8, if_pos ⟨Int32.not_lt.mp h18, h24⟩, if_neg h40], by rw [ht]; exact hP, by rw [hAe]; exact hD⟩, hS.F ht⟩) hS.2.2 dX5_addLens_66
        · refine lv_ldc2 (v := (-9000000000000000004)) hx hb hown (hts (.constantLong RX5 50 (-9000000000000000004)) (by decide +kernel)) dX5_addLens_43 ?_
          exact W.lret hx hb hr (fun t ht hW => ⟨⟨_, (lg, lp, k), rfl, by rw [sAdL, if_pos h8, if_pos ⟨Int32.not_lt.mp h18, h24⟩, if_pos h40], by rw [ht]; exact hP, by rw [hAe]; exact hD⟩, hS.F ht⟩) hS.2.2 dX5_addLens_46
      · refine lv_ldc2 (v := (-9000000000000000001)) hx hb hown (hts (.constantLong RX5 44 (-9000000000000000001)) (by decide +kernel)) dX5_addLens_27 ?_
        exact W.lret hx hb hr (fun t ht hW => ⟨⟨_, (lg, lp, k), rfl, by rw [sAdL, if_pos h8, if_neg (fun w => h24 w.2)], by rw [ht]; exact hP, by rw [hAe]; exact hD⟩, hS.F ht⟩) hS.2.2 dX5_addLens_30
  · refine lv_ldc2 (v := (-9000000000000000002)) hx hb hown (hts (.constantLong RX5 97 (-9000000000000000002)) (by decide +kernel)) dX5_addLens_11 ?_
    exact W.lret hx hb hr (fun t ht hW => ⟨⟨_, (lg, lp, k), rfl, by rw [sAdL, if_neg h8], by rw [ht]; exact hP, by rw [hAe]; exact hD⟩, hS.F ht⟩) hS.2.2 dX5_addLens_14

set_option maxHeartbeats 4000000 in
set_option maxRecDepth 100000 in
theorem c_X5_removeLens (l : Launch) (dC : Nat → ClassId) (dI : Nat → Nat → Nat) (cI cJ : ClassId) (sz : Nat) (q : Nat → Nat) (lg lp : Nat → Int32) (k : Nat) (hk : k ≤ 8) (x : Int32) : Met l yX5_removeLens wsX5_removeLens ({ frames := 2, cells := 0, slots := 0, locals := 43 }) (va_Pc [.ref (q 0), .int x] (MU (dC, dI) (tyK cI cJ) ([(q 0, .inr (5, [.ref (q 1), .ref (q 3), .ref (q 8), .ref (q 14), .ref (q 17)])), (q 14, .inr (3, [.ref (q 15), .ref (q 16), .int (nI k)])), (q 15, .inl (cI, 8, .inl lg)), (q 16, .inl (cI, 8, .inl lp))]) sz)) (va_Ql (fun r (u : LE) => (r, u) = sRmL lg lp k x) (MB (dC, dI) ([(q 0, .inr (5, [.ref (q 1), .ref (q 3), .ref (q 8), .ref (q 14), .ref (q 17)])), (q 14, .inr (3, [.ref (q 15), .ref (q 16), .int (nI k)])), (q 15, .inl (cI, 8, .inl lg)), (q 16, .inl (cI, 8, .inl lp))]) sz (fun (u : LE) => [(q 0, .inr (5, [.ref (q 1), .ref (q 3), .ref (q 8), .ref (q 14), .ref (q 17)])), (q 14, .inr (3, [.ref (q 15), .ref (q 16), .int (nI u.2.2)])), (q 15, .inl (cI, 8, .inl u.1)), (q 16, .inl (cI, 8, .inl u.2.1))])) (va_A ([(q 0, .inr (5, [.ref (q 1), .ref (q 3), .ref (q 8), .ref (q 14), .ref (q 17)])), (q 14, .inr (3, [.ref (q 15), .ref (q 16), .int (nI k)])), (q 15, .inl (cI, 8, .inl lg)), (q 16, .inl (cI, 8, .inl lp))]) sz)) 0 0 (va_A ([(q 0, .inr (5, [.ref (q 1), .ref (q 3), .ref (q 8), .ref (q 14), .ref (q 17)])), (q 14, .inr (3, [.ref (q 15), .ref (q 16), .int (nI k)])), (q 15, .inl (cI, 8, .inl lg)), (q 16, .inl (cI, 8, .inl lp))]) sz) := by
  refine Met.ofW (cc := cX5_removeLens) (maxL := 2) (ret := (some .long)) (by decide) rfl ?_
  intro p e s m args below meth c s₁ B hml hv
  obtain ⟨rfl, hsz, hP, hK, hN, hD0⟩ := hv
  have hx := B.exec
  have hb := B.bytes
  have hr := B.returns
  have hts := atoms_spec (ws := wsX5_removeLens) B.pre
  have hown : s.vm.findClass RX5 = some m.cls := findClass_of_methodNamed B.named
  have hlocks := B.notSynchronized
  subst hsz
  have hD := hD0.self (sz := s.heap.size)
  generalize hAe : va_A ([(q 0, .inr (5, [.ref (q 1), .ref (q 3), .ref (q 8), .ref (q 14), .ref (q 17)])), (q 14, .inr (3, [.ref (q 15), .ref (q 16), .int (nI k)])), (q 15, .inl (cI, 8, .inl lg)), (q 16, .inl (cI, 8, .inl lp))]) s.heap.size = A at hD ⊢
  have hA : ∀ q : Nat, s.heap.size ≤ q → A q := fun q h => by rw [← hAe]; exact Or.inr h
  have hS : va_S A s.heap s.heap [] := va_S.rf
  have hP : va_P (dC, dI) vwCl [(q 0, .inr (5, [.ref (q 1), .ref (q 3), .ref (q 8), .ref (q 14), .ref (q 17)])), (q 14, .inr (3, [.ref (q 15), .ref (q 16), .int (nI k)])), (q 15, .inl (cI, 8, .inl lg)), (q 16, .inl (cI, 8, .inl lp))] s.heap := hP
  have hD : va_D A [(q 0, .inr (5, [.ref (q 1), .ref (q 3), .ref (q 8), .ref (q 14), .ref (q 17)])), (q 14, .inr (3, [.ref (q 15), .ref (q 16), .int (nI k)])), (q 15, .inl (cI, 8, .inl lg)), (q 16, .inl (cI, 8, .inl lp))] := hD
  obtain ⟨H, hH⟩ : ∃ H : Heap, H = s.heap := ⟨_, rfl⟩
  obtain ⟨locs, hlc⟩ : ∃ locs : List Loc, locs = [] := ⟨_, rfl⟩
  have hl := lv_entry ([.ref (q 0), .int x]) (n := 2) (Nat.le_of_ble_eq_true rfl)
  rw [lg_entry_eq]
  generalize (lg_sl ([.ref (q 0), .int x]) ++ List.replicate (2 - (lg_sl ([.ref (q 0), .int x])).length) Slot.unset).toArray = ls at hl ⊢
  have hl : lv_has ls 2 [(0, .ref (q 0)), (1, .int x)] := hl
  refine mu_in hH hlc (fun hS hP hD => ?_) hS hP hD
  clear hH hlc
  refine lv_aload_n hx hb dX5_removeLens_0 rfl (lv_at hl 0 rfl) ?_
  refine va_get (D := (dC, dI)) (ci := 5) (v := .ref (q 14)) (C := RX5) (T := TX5) (N := 5) hx hb hts (by decide +kernel) hown hK hP 0 rfl rfl 3 (by decide) (hts (.fieldLink RX5 33 "AchromatDesk" "system" "LAchromatDesk$LensSystem;") (by decide +kernel)) (fun _ h9 => h9) rfl dX5_removeLens_1 ?_
  refine lv_iload_n hx hb dX5_removeLens_4 rfl (lv_at hl 1 rfl) ?_
  refine roVi (As := [.int x]) (rest := []) (c_X3_has l dC dI cI cJ q lg lp k hk x) ⟨hx, hb, hml, hown, hts⟩ (cwV 1 hts gX5_removeLens_X3_has rfl rfl rfl (by decide +kernel) ⟨Nat.le_of_ble_eq_true rfl, Nat.le_of_ble_eq_true rfl⟩) (hP.sub [1, 2, 3] rfl) hK hN (ci := 3) rfl rfl rfl hl.1 rfl (Nat.le_of_ble_eq_true rfl) dX5_removeLens_5 ⟨Nat.zero_le _, Nat.zero_le _⟩ (fun r hr0 => ?_)
  subst hr0
  refine rb_ne (tgt := 15) hx hb dX5_removeLens_8 (by decide) (fun h8 => ?_) (fun h8 => ?_)
  · obtain ⟨g, hg, eg⟩ := hasP_ex (by omega) h8
    subst eg
    refine lv_aload_n hx hb dX5_removeLens_15 rfl (lv_at hl 0 rfl) ?_
    refine va_get (D := (dC, dI)) (ci := 5) (v := .ref (q 14)) (C := RX5) (T := TX5) (N := 5) hx hb hts (by decide +kernel) hown hK hP 0 rfl rfl 3 (by decide) (hts (.fieldLink RX5 33 "AchromatDesk" "system" "LAchromatDesk$LensSystem;") (by decide +kernel)) (fun _ h9 => h9) rfl dX5_removeLens_16 ?_
    refine lv_iload_n hx hb dX5_removeLens_19 rfl (lv_at hl 1 rfl) ?_
    refine muVv (As := [.int (nI g)]) (rest := []) (wr := [(q 0, .inr (5, [.ref (q 1), .ref (q 3), .ref (q 8), .ref (q 14), .ref (q 17)]))]) (c_X3_remove l dC dI cI cJ H.size q lg lp k hk g (by omega)) ⟨hx, hb, hml, hown, hts⟩ (cwV 1 hts gX5_removeLens_X3_remove rfl rfl rfl (by decide +kernel) ⟨Nat.le_of_ble_eq_true rfl, Nat.le_of_ble_eq_true rfl⟩) hP hD hS hA hK hN [1, 2, 3] [0] rfl rfl (by decide) rfl (by decide) (by decide) (ci := 3) rfl rfl rfl hl.1 rfl (Nat.le_of_ble_eq_true rfl) dX5_removeLens_20 ⟨Nat.le_of_ble_eq_true rfl, Nat.le_of_ble_eq_true rfl⟩ (fun _ H locs hr0 hP hD hS => ?_)
    have hP := hP.sub (ws' := [(q 0, .inr (5, [.ref (q 1), .ref (q 3), .ref (q 8), .ref (q 14), .ref (q 17)])), (q 14, .inr (3, [.ref (q 15), .ref (q 16), .int (nI (k - 1))])), (q 15, .inl (cI, 8, .inl (shf lg g k))), (q 16, .inl (cI, 8, .inl (shf lp g k)))]) [0, 1, 2, 3] rfl
    have hD := hD.sub (ws' := [(q 0, .inr (5, [.ref (q 1), .ref (q 3), .ref (q 8), .ref (q 14), .ref (q 17)])), (q 14, .inr (3, [.ref (q 15), .ref (q 16), .int (nI (k - 1))])), (q 15, .inl (cI, 8, .inl (shf lg g k))), (q 16, .inl (cI, 8, .inl (shf lp g k)))]) [0, 1, 2, 3] (by decide) rfl
    refine lv_aload_n hx hb dX5_removeLens_23 rfl (lv_at hl 0 rfl) ?_
    refine va_get (D := (dC, dI)) (ci := 5) (v := .ref (q 14)) (C := RX5) (T := TX5) (N := 5) hx hb hts (by decide +kernel) hown hK hP 0 rfl rfl 3 (by decide) (hts (.fieldLink RX5 33 "AchromatDesk" "system" "LAchromatDesk$LensSystem;") (by decide +kernel)) (fun _ h9 => h9) rfl dX5_removeLens_24 ?_
    refine va_getN (D := (dC, dI)) (ci := 3) (v := .int (nI (k - 1))) (C := RX3) (T := TX3) (N := 3) hx hb hts (by decide +kernel) hown hK hP 1 rfl rfl 2 (by decide) (va_Nw.use (w := .fieldLinkNest "AchromatDesk" 178 "AchromatDesk$LensSystem" "count" "I" "AchromatDesk") rfl (hN.at 4 rfl)) (fun _ h9 => h9) rfl dX5_removeLens_27 ?_
    refine lv_i2l (v := lN (k - 1)) hx hb dX5_removeLens_30 (nI_l (by omega)) ?_
    exact W.lret hx hb hr (fun t ht hW => ⟨⟨_, (shf lg g k, shf lp g k, k - 1), rfl, by rw [sRmL, if_pos h8, ix_nI (by omega)], by rw [ht]; exact hP, by rw [hAe]; exact hD⟩, hS.F ht⟩) hS.2.2 dX5_removeLens_31
  · refine lv_ldc2 (v := (-9000000000000000003)) hx hb hown (hts (.constantLong RX5 183 (-9000000000000000003)) (by decide +kernel)) dX5_removeLens_11 ?_
    exact W.lret hx hb hr (fun t ht hW => ⟨⟨_, (lg, lp, k), rfl, by rw [sRmL, if_neg h8], by rw [ht]; exact hP, by rw [hAe]; exact hD⟩, hS.F ht⟩) hS.2.2 dX5_removeLens_14

set_option maxHeartbeats 4000000 in
set_option maxRecDepth 100000 in
theorem c_X5_addPlate (l : Launch) (dC : Nat → ClassId) (dI : Nat → Nat → Nat) (cI cJ : ClassId) (sz : Nat) (q : Nat → Nat) (rd : Nat → Int32) (np : Nat) (hp : np ≤ 16) (x : Int32) : Met l yX5_addPlate wsX5_addPlate ({ frames := 1, cells := 0, slots := 0, locals := 22 }) (va_Pc [.ref (q 0), .int x] (MU (dC, dI) (tyK cI cJ) ([(q 0, .inr (5, [.ref (q 1), .ref (q 3), .ref (q 8), .ref (q 14), .ref (q 17)])), (q 17, .inr (4, [.ref (q 18), .int (nI np)])), (q 18, .inl (cI, 16, .inl rd))]) sz)) (va_Ql (fun r (u : TX) => (r, u) = sAdP rd np x) (MB (dC, dI) ([(q 0, .inr (5, [.ref (q 1), .ref (q 3), .ref (q 8), .ref (q 14), .ref (q 17)])), (q 17, .inr (4, [.ref (q 18), .int (nI np)])), (q 18, .inl (cI, 16, .inl rd))]) sz (fun (u : TX) => [(q 0, .inr (5, [.ref (q 1), .ref (q 3), .ref (q 8), .ref (q 14), .ref (q 17)])), (q 17, .inr (4, [.ref (q 18), .int (nI u.2)])), (q 18, .inl (cI, 16, .inl u.1))])) (va_A ([(q 0, .inr (5, [.ref (q 1), .ref (q 3), .ref (q 8), .ref (q 14), .ref (q 17)])), (q 17, .inr (4, [.ref (q 18), .int (nI np)])), (q 18, .inl (cI, 16, .inl rd))]) sz)) 0 0 (va_A ([(q 0, .inr (5, [.ref (q 1), .ref (q 3), .ref (q 8), .ref (q 14), .ref (q 17)])), (q 17, .inr (4, [.ref (q 18), .int (nI np)])), (q 18, .inl (cI, 16, .inl rd))]) sz) := by
  refine Met.ofW (cc := cX5_addPlate) (maxL := 2) (ret := (some .long)) (by decide) rfl ?_
  intro p e s m args below meth c s₁ B hml hv
  obtain ⟨rfl, hsz, hP, hK, hN, hD0⟩ := hv
  have hx := B.exec
  have hb := B.bytes
  have hr := B.returns
  have hts := atoms_spec (ws := wsX5_addPlate) B.pre
  have hown : s.vm.findClass RX5 = some m.cls := findClass_of_methodNamed B.named
  have hlocks := B.notSynchronized
  subst hsz
  have hD := hD0.self (sz := s.heap.size)
  generalize hAe : va_A ([(q 0, .inr (5, [.ref (q 1), .ref (q 3), .ref (q 8), .ref (q 14), .ref (q 17)])), (q 17, .inr (4, [.ref (q 18), .int (nI np)])), (q 18, .inl (cI, 16, .inl rd))]) s.heap.size = A at hD ⊢
  have hA : ∀ q : Nat, s.heap.size ≤ q → A q := fun q h => by rw [← hAe]; exact Or.inr h
  have hS : va_S A s.heap s.heap [] := va_S.rf
  have hP : va_P (dC, dI) vwCl [(q 0, .inr (5, [.ref (q 1), .ref (q 3), .ref (q 8), .ref (q 14), .ref (q 17)])), (q 17, .inr (4, [.ref (q 18), .int (nI np)])), (q 18, .inl (cI, 16, .inl rd))] s.heap := hP
  have hD : va_D A [(q 0, .inr (5, [.ref (q 1), .ref (q 3), .ref (q 8), .ref (q 14), .ref (q 17)])), (q 17, .inr (4, [.ref (q 18), .int (nI np)])), (q 18, .inl (cI, 16, .inl rd))] := hD
  obtain ⟨H, hH⟩ : ∃ H : Heap, H = s.heap := ⟨_, rfl⟩
  obtain ⟨locs, hlc⟩ : ∃ locs : List Loc, locs = [] := ⟨_, rfl⟩
  have hl := lv_entry ([.ref (q 0), .int x]) (n := 2) (Nat.le_of_ble_eq_true rfl)
  rw [lg_entry_eq]
  generalize (lg_sl ([.ref (q 0), .int x]) ++ List.replicate (2 - (lg_sl ([.ref (q 0), .int x])).length) Slot.unset).toArray = ls at hl ⊢
  have hl : lv_has ls 2 [(0, .ref (q 0)), (1, .int x)] := hl
  refine mu_in hH hlc (fun hS hP hD => ?_) hS hP hD
  clear hH hlc
  refine lv_iload_n hx hb dX5_addPlate_0 rfl (lv_at hl 1 rfl) ?_
  refine lv_sipush (v := 1000) hx hb dX5_addPlate_1 (by decide) ?_
  refine lv_icmp_lt (tgt := 13) hx hb dX5_addPlate_4 (by decide) (fun h4 => ?_) (fun h4 => ?_)
  · refine lv_ldc2 (v := (-9000000000000000001)) hx hb hown (hts (.constantLong RX5 44 (-9000000000000000001)) (by decide +kernel)) dX5_addPlate_13 ?_
    exact W.lret hx hb hr (fun t ht hW => ⟨⟨_, (rd, np), rfl, by rw [sAdP, if_neg (fun w => absurd w.1 (Int32.not_le.mpr h4))], by rw [ht]; exact hP, by rw [hAe]; exact hD⟩, hS.F ht⟩) hS.2.2 dX5_addPlate_16
  · refine lv_iload_n hx hb dX5_addPlate_7 rfl (lv_at hl 1 rfl) ?_
    refine lv_ldc (v := 1000000) hx hb hown (hts (.constant RX5 200 (1000000)) (by decide +kernel)) dX5_addPlate_8 ?_
    refine lv_icmp_le (tgt := 17) hx hb dX5_addPlate_10 (by decide) (fun h10 => ?_) (fun h10 => ?_)
    · refine lv_aload_n hx hb dX5_addPlate_17 rfl (lv_at hl 0 rfl) ?_
      refine va_get (D := (dC, dI)) (ci := 5) (v := .ref (q 17)) (C := RX5) (T := TX5) (N := 5) hx hb hts (by decide +kernel) hown hK hP 0 rfl rfl 4 (by decide) (hts (.fieldLink RX5 40 "AchromatDesk" "plates" "LAchromatDesk$PlateSet;") (by decide +kernel)) (fun _ h9 => h9) rfl dX5_addPlate_18 ?_
      refine lv_iload_n hx hb dX5_addPlate_21 rfl (lv_at hl 1 rfl) ?_
      refine roVi (As := [.int x]) (rest := []) (c_X4_hasRadius l dC dI cI cJ q rd np hp x) ⟨hx, hb, hml, hown, hts⟩ (cwV 1 hts gX5_addPlate_X4_hasRadius rfl rfl rfl (by decide +kernel) ⟨Nat.le_of_ble_eq_true rfl, Nat.le_of_ble_eq_true rfl⟩) (hP.sub [1, 2] rfl) hK hN (ci := 4) rfl rfl rfl hl.1 rfl (Nat.le_of_ble_eq_true rfl) dX5_addPlate_22 ⟨Nat.zero_le _, Nat.zero_le _⟩ (fun r hr0 => ?_)
      subst hr0
      refine rb_eq (tgt := 32) hx hb dX5_addPlate_25 (by decide) (fun h25 => ?_) (fun h25 => ?_)
      · refine lv_aload_n hx hb dX5_addPlate_32 rfl (lv_at hl 0 rfl) ?_
        refine va_get (D := (dC, dI)) (ci := 5) (v := .ref (q 17)) (C := RX5) (T := TX5) (N := 5) hx hb hts (by decide +kernel) hown hK hP 0 rfl rfl 4 (by decide) (hts (.fieldLink RX5 40 "AchromatDesk" "plates" "LAchromatDesk$PlateSet;") (by decide +kernel)) (fun _ h9 => h9) rfl dX5_addPlate_33 ?_
        refine va_getN (D := (dC, dI)) (ci := 4) (v := .int (nI np)) (C := RX4) (T := TX4) (N := 2) hx hb hts (by decide +kernel) hown hK hP 1 rfl rfl 1 (by decide) (va_Nw.use (w := .fieldLinkNest "AchromatDesk" 204 "AchromatDesk$PlateSet" "count" "I" "AchromatDesk") rfl (hN.at 5 rfl)) (fun _ h9 => h9) rfl dX5_addPlate_36 ?_
        refine lv_bipush (v := 16) hx hb dX5_addPlate_39 (by decide) ?_
        refine rn_ne (tgt := 48) hx hb np 16 rfl rfl (by omega) (by omega) dX5_addPlate_41 (by decide) (fun h41 => ?_) (fun h41 => ?_)
        · refine lv_aload_n hx hb dX5_addPlate_48 rfl (lv_at hl 0 rfl) ?_
          refine va_get (D := (dC, dI)) (ci := 5) (v := .ref (q 17)) (C := RX5) (T := TX5) (N := 5) hx hb hts (by decide +kernel) hown hK hP 0 rfl rfl 4 (by decide) (hts (.fieldLink RX5 40 "AchromatDesk" "plates" "LAchromatDesk$PlateSet;") (by decide +kernel)) (fun _ h9 => h9) rfl dX5_addPlate_49 ?_
          refine lv_iload_n hx hb dX5_addPlate_52 rfl (lv_at hl 1 rfl) ?_
          refine muVv (As := [.int x]) (rest := []) (wr := [(q 0, .inr (5, [.ref (q 1), .ref (q 3), .ref (q 8), .ref (q 14), .ref (q 17)]))]) (c_X4_add l dC dI cI cJ H.size q rd np hp (by omega) x) ⟨hx, hb, hml, hown, hts⟩ (cwV 1 hts gX5_addPlate_X4_add rfl rfl rfl (by decide +kernel) ⟨Nat.le_of_ble_eq_true rfl, Nat.le_of_ble_eq_true rfl⟩) hP hD hS hA hK hN [1, 2] [0] rfl rfl (by decide) rfl (by decide) (by decide) (ci := 4) rfl rfl rfl hl.1 rfl (Nat.le_of_ble_eq_true rfl) dX5_addPlate_53 ⟨Nat.le_of_ble_eq_true rfl, Nat.le_of_ble_eq_true rfl⟩ (fun _ H locs hr0 hP hD hS => ?_)
          have hP := hP.sub (ws' := [(q 0, .inr (5, [.ref (q 1), .ref (q 3), .ref (q 8), .ref (q 14), .ref (q 17)])), (q 17, .inr (4, [.ref (q 18), .int (nI (np + 1))])), (q 18, .inl (cI, 16, .inl (upd rd np x)))]) [0, 1, 2] rfl
          have hD := hD.sub (ws' := [(q 0, .inr (5, [.ref (q 1), .ref (q 3), .ref (q 8), .ref (q 14), .ref (q 17)])), (q 17, .inr (4, [.ref (q 18), .int (nI (np + 1))])), (q 18, .inl (cI, 16, .inl (upd rd np x)))]) [0, 1, 2] (by decide) rfl
          refine lv_aload_n hx hb dX5_addPlate_56 rfl (lv_at hl 0 rfl) ?_
          refine va_get (D := (dC, dI)) (ci := 5) (v := .ref (q 17)) (C := RX5) (T := TX5) (N := 5) hx hb hts (by decide +kernel) hown hK hP 0 rfl rfl 4 (by decide) (hts (.fieldLink RX5 40 "AchromatDesk" "plates" "LAchromatDesk$PlateSet;") (by decide +kernel)) (fun _ h9 => h9) rfl dX5_addPlate_57 ?_
          refine va_getN (D := (dC, dI)) (ci := 4) (v := .int (nI (np + 1))) (C := RX4) (T := TX4) (N := 2) hx hb hts (by decide +kernel) hown hK hP 1 rfl rfl 1 (by decide) (va_Nw.use (w := .fieldLinkNest "AchromatDesk" 204 "AchromatDesk$PlateSet" "count" "I" "AchromatDesk") rfl (hN.at 5 rfl)) (fun _ h9 => h9) rfl dX5_addPlate_60 ?_
          refine lv_iconst (v := 1) hx hb dX5_addPlate_63 (by decide) ?_
          refine lv_isub hx hb dX5_addPlate_64 ?_
          refine rw_topi (show ((nI (np + 1)) - 1 : Int32) = (nI np : Int32) from nI_pred np) ?_
          refine lv_i2l (v := lN np) hx hb dX5_addPlate_65 (nI_l (by omega)) ?_
          exact W.lret hx hb hr (fun t ht hW => ⟨⟨_, (upd rd np x, np + 1), rfl, by rw [sAdP, if_pos ⟨Int32.not_lt.mp h4, h10⟩, if_neg h25, if_neg h41], by rw [ht]; exact hP, by rw [hAe]; exact hD⟩, hS.F ht⟩) hS.2.2 dX5_addPlate_66
        · refine lv_ldc2 (v := (-9000000000000000004)) hx hb hown (hts (.constantLong RX5 50 (-9000000000000000004)) (by decide +kernel)) dX5_addPlate_44 ?_
          exact W.lret hx hb hr (fun t ht hW => ⟨⟨_, (rd, np), rfl, by rw [sAdP, if_pos ⟨Int32.not_lt.mp h4, h10⟩, if_neg h25, if_pos h41], by rw [ht]; exact hP, by rw [hAe]; exact hD⟩, hS.F ht⟩) hS.2.2 dX5_addPlate_47
      · refine lv_ldc2 (v := (-9000000000000000006)) hx hb hown (hts (.constantLong RX5 88 (-9000000000000000006)) (by decide +kernel)) dX5_addPlate_28 ?_
        exact W.lret hx hb hr (fun t ht hW => ⟨⟨_, (rd, np), rfl, by rw [sAdP, if_pos ⟨Int32.not_lt.mp h4, h10⟩, if_pos h25], by rw [ht]; exact hP, by rw [hAe]; exact hD⟩, hS.F ht⟩) hS.2.2 dX5_addPlate_31
    · refine lv_ldc2 (v := (-9000000000000000001)) hx hb hown (hts (.constantLong RX5 44 (-9000000000000000001)) (by decide +kernel)) dX5_addPlate_13 ?_
      exact W.lret hx hb hr (fun t ht hW => ⟨⟨_, (rd, np), rfl, by rw [sAdP, if_neg (fun w => h10 w.2)], by rw [ht]; exact hP, by rw [hAe]; exact hD⟩, hS.F ht⟩) hS.2.2 dX5_addPlate_16
