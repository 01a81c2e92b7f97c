set_option maxHeartbeats 4000000 in
set_option maxRecDepth 100000 in
theorem c_X0_has (l : Launch) (dC : Nat → ClassId) (dI : Nat → Nat → Nat) (cI cJ : ClassId) (q : Nat → Nat) (G : GL) (n : Nat) (hn : n ≤ 20) (x : Int32) : Met l yX0_has wsX0_has ({ frames := 0, cells := 0, slots := 0, locals := 0 }) (va_Pc [.ref (q 3), .int x] (RO (dC, dI) (tyK cI cJ) ([(q 3, .inr (0, [.ref (q 4), .ref (q 5), .ref (q 6), .ref (q 7), .int (nI n)])), (q 4, .inl (cJ, 20, .inr (.inl (gK G)))), (q 5, .inl (cI, 20, .inl (gF G))), (q 6, .inl (cI, 20, .inl (gD G))), (q 7, .inl (cI, 20, .inl (gC G)))]))) (vp_Si (fun r => r = if hasP x n then 1 else 0)) 0 0 (fun _ => False) := by
  refine Met.ofW (cc := cX0_has) (maxL := 2) (ret := (some .boolean)) (by decide) rfl ?_
  intro p e s m args below meth c s₁ B hml hv
  obtain ⟨rfl, hP, hK, hN⟩ := hv
  have hx := B.exec
  have hb := B.bytes
  have hr := B.returns
  have hts := atoms_spec (ws := wsX0_has) B.pre
  have hown : s.vm.findClass RX0 = some m.cls := findClass_of_methodNamed B.named
  have hlocks := B.notSynchronized
  have hP : va_P (dC, dI) vwCl [(q 3, .inr (0, [.ref (q 4), .ref (q 5), .ref (q 6), .ref (q 7), .int (nI n)])), (q 4, .inl (cJ, 20, .inr (.inl (gK G)))), (q 5, .inl (cI, 20, .inl (gF G))), (q 6, .inl (cI, 20, .inl (gD G))), (q 7, .inl (cI, 20, .inl (gC G)))] s.heap := hP
  have hl := lv_entry ([.ref (q 3), .int x]) (n := 2) (Nat.le_of_ble_eq_true rfl)
  rw [lg_entry_eq]
  generalize (lg_sl ([.ref (q 3), .int x]) ++ List.replicate (2 - (lg_sl ([.ref (q 3), .int x])).length) Slot.unset).toArray = ls at hl ⊢
  have hl : lv_has ls 2 [(0, .ref (q 3)), (1, .int x)] := hl
  refine lv_iload_n hx hb dX0_has_0 rfl (lv_at hl 1 rfl) ?_
  refine lv_if_lt (tgt := 16) hx hb dX0_has_1 (by decide) (fun h1 => ?_) (fun h1 => ?_)
  · refine lv_iconst (v := 0) hx hb dX0_has_16 (by decide) ?_
    exact W.zret hx hb hr (by decide) (fun t ht hW => ⟨_, rfl, (if_neg (fun z => absurd z.1 (Int32.not_le.mpr h1))).symm, ht⟩) (fun _ h => absurd h List.not_mem_nil) dX0_has_17
  · refine lv_iload_n hx hb dX0_has_4 rfl (lv_at hl 1 rfl) ?_
    refine lv_aload_n hx hb dX0_has_5 rfl (lv_at hl 0 rfl) ?_
    refine va_get (D := (dC, dI)) (ci := 0) (v := .int (nI n)) (C := RX0) (T := TX0) (N := 5) hx hb hts (by decide +kernel) hown hK hP 0 rfl rfl 4 (by decide) (hts (.fieldLink RX0 25 "AchromatDesk$Catalogue" "count" "I") (by decide +kernel)) (fun _ h9 => h9) rfl dX0_has_6 ?_
    refine lv_icmp_ge (tgt := 16) hx hb dX0_has_9 (by decide) (fun h9 => ?_) (fun h9 => ?_)
    · refine lv_iconst (v := 0) hx hb dX0_has_16 (by decide) ?_
      exact W.zret hx hb hr (by decide) (fun t ht hW => ⟨_, rfl, (if_neg (fun z => absurd z.2 (Int32.not_lt.mpr h9))).symm, ht⟩) (fun _ h => absurd h List.not_mem_nil) dX0_has_17
    · refine lv_iconst (v := 1) hx hb dX0_has_12 (by decide) ?_
      refine lv_goto (tgt := 17) hx hb dX0_has_13 (by decide) ?_
      exact W.zret hx hb hr (by decide) (fun t ht hW => ⟨_, rfl, (if_pos ⟨Int32.not_lt.mp h1, Int32.not_le.mp h9⟩).symm, ht⟩) (fun _ h => absurd h List.not_mem_nil) dX0_has_17

set_option maxHeartbeats 4000000 in
set_option maxRecDepth 100000 in
theorem c_X0_hasName (l : Launch) (dC : Nat → ClassId) (dI : Nat → Nat → Nat) (cI cJ : ClassId) (q : Nat → Nat) (G : GL) (n : Nat) (hn : n ≤ 20) (y : Int64) : Met l yX0_hasName wsX0_hasName ({ frames := 0, cells := 0, slots := 0, locals := 0 }) (va_Pc [.ref (q 3), .long y] (RO (dC, dI) (tyK cI cJ) ([(q 3, .inr (0, [.ref (q 4), .ref (q 5), .ref (q 6), .ref (q 7), .int (nI n)])), (q 4, .inl (cJ, 20, .inr (.inl (gK G)))), (q 5, .inl (cI, 20, .inl (gF G))), (q 6, .inl (cI, 20, .inl (gD G))), (q 7, .inl (cI, 20, .inl (gC G)))]))) (vp_Si (fun r => r = if (∃ g, g < n ∧ gK G g = y) then 1 else 0)) 0 0 (fun _ => False) := by
  refine Met.ofW (cc := cX0_hasName) (maxL := 4) (ret := (some .boolean)) (by decide) rfl ?_
  intro p e s m args below meth c s₁ B hml hv
  obtain ⟨rfl, hP, hK, hN⟩ := hv
  have hx := B.exec
  have hb := B.bytes
  have hr := B.returns
  have hts := atoms_spec (ws := wsX0_hasName) B.pre
  have hown : s.vm.findClass RX0 = some m.cls := findClass_of_methodNamed B.named
  have hlocks := B.notSynchronized
  have hP : va_P (dC, dI) vwCl [(q 3, .inr (0, [.ref (q 4), .ref (q 5), .ref (q 6), .ref (q 7), .int (nI n)])), (q 4, .inl (cJ, 20, .inr (.inl (gK G)))), (q 5, .inl (cI, 20, .inl (gF G))), (q 6, .inl (cI, 20, .inl (gD G))), (q 7, .inl (cI, 20, .inl (gC G)))] s.heap := hP
  have hl := lv_entry ([.ref (q 3), .long y]) (n := 4) (Nat.le_of_ble_eq_true rfl)
  rw [lg_entry_eq]
  generalize (lg_sl ([.ref (q 3), .long y]) ++ List.replicate (4 - (lg_sl ([.ref (q 3), .long y])).length) Slot.unset).toArray = ls at hl ⊢
  have hl : lv_has ls 4 [(0, .ref (q 3)), (1, .long y)] := hl
  refine lv_iconst (v := 0) hx hb dX0_hasName_0 (by decide) ?_
  refine lv_istore_n (lv' := [(3, .int 0), (0, .ref (q 3)), (1, .long y)]) hx hb dX0_hasName_1 rfl hl (by decide) rfl (fun ls hl => ?_)
  refine rloopZ (nL := 4) 0 n (fun _ z => z) () (fun k2 z2 => [(3, .int (nI k2)), (0, .ref (q 3)), (1, .long y)]) (fun k _ => ∀ g, g < k → ¬ gK G g = y) (by omega) (fun g h => absurd h (Nat.not_lt_zero g)) (lv_sub hl [0, 1, 2] rfl) (fun k2 z2 hlo2 hk2 hz2 hI2 ls hl ih2 => ?_) (fun z2 hz2 hI2 ls hl => ?_)
  · refine lv_iload_n hx hb dX0_hasName_2 rfl (lv_at hl 0 rfl) ?_
    refine lv_aload_n hx hb dX0_hasName_3 rfl (lv_at hl 1 rfl) ?_
    refine va_get (D := (dC, dI)) (ci := 0) (v := .int (nI n)) (C := RX0) (T := TX0) (N := 5) hx hb hts (by decide +kernel) hown hK hP 0 rfl rfl 4 (by decide) (hts (.fieldLink RX0 25 "AchromatDesk$Catalogue" "count" "I") (by decide +kernel)) (fun _ h9 => h9) rfl dX0_hasName_4 ?_
    refine rn_ge (tgt := 29) hx hb k2 n rfl rfl (by omega) (by omega) dX0_hasName_7 (by decide) (fun h7 => ?_) (fun h7 => ?_)
    · exfalso; omega
    · refine lv_aload_n hx hb dX0_hasName_10 rfl (lv_at hl 1 rfl) ?_
      refine va_get (D := (dC, dI)) (ci := 0) (v := .ref (q 4)) (C := RX0) (T := TX0) (N := 5) hx hb hts (by decide +kernel) hown hK hP 0 rfl rfl 0 (by decide) (hts (.fieldLink RX0 9 "AchromatDesk$Catalogue" "nameKeys" "[J") (by decide +kernel)) (fun _ h9 => h9) rfl dX0_hasName_11 ?_
      refine lv_iload_n hx hb dX0_hasName_14 rfl (lv_at hl 0 rfl) ?_
      refine ar_lald hx hb hK hP 1 1 rfl rfl k2 rfl (by omega) (by omega) dX0_hasName_15 ?_
      refine lv_lload_n hx hb dX0_hasName_16 rfl (lv_at hl 2 rfl) ?_
      refine rl_ifne (tgt := 23) hx hb dX0_hasName_17 dX0_hasName_18 (by decide) (fun h17 => ?_) (fun h17 => ?_)
      · refine lv_iinc (v := nI (k2 + 1)) (lv' := [(3, .int (nI (k2 + 1))), (0, .ref (q 3)), (1, .long y)]) hx hb dX0_hasName_23 hl (k := 0) rfl (by first | rfl | exact nI_add _ _) (by decide) rfl (fun ls hl => ?_)
        refine lv_goto (tgt := 2) hx hb dX0_hasName_26 (by decide) ?_
        exact ih2 () (rfl) (fun g h => (Nat.lt_succ_iff_lt_or_eq.mp h).elim (hI2 g) (fun e => e ▸ h17)) ls (lv_sub hl [0, 1, 2] rfl)
      · refine lv_iconst (v := 1) hx hb dX0_hasName_21 (by decide) ?_
        exact W.zret hx hb hr (by decide) (fun t ht hW => ⟨_, rfl, (if_pos ⟨k2, hk2, h17⟩).symm, ht⟩) (fun _ h => absurd h List.not_mem_nil) dX0_hasName_22
  · refine lv_iload_n hx hb dX0_hasName_2 rfl (lv_at hl 0 rfl) ?_
    refine lv_aload_n hx hb dX0_hasName_3 rfl (lv_at hl 1 rfl) ?_
    refine va_get (D := (dC, dI)) (ci := 0) (v := .int (nI n)) (C := RX0) (T := TX0) (N := 5) hx hb hts (by decide +kernel) hown hK hP 0 rfl rfl 4 (by decide) (hts (.fieldLink RX0 25 "AchromatDesk$Catalogue" "count" "I") (by decide +kernel)) (fun _ h9 => h9) rfl dX0_hasName_4 ?_
    refine rn_ge (tgt := 29) hx hb n n rfl rfl (by omega) (by omega) dX0_hasName_7 (by decide) (fun h7 => ?_) (fun h7 => ?_)
    · refine lv_iconst (v := 0) hx hb dX0_hasName_29 (by decide) ?_
      exact W.zret hx hb hr (by decide) (fun t ht hW => ⟨_, rfl, (if_neg (fun ⟨g, hg, hq⟩ => hI2 g hg hq)).symm, ht⟩) (fun _ h => absurd h List.not_mem_nil) dX0_hasName_30
    · exfalso; omega

set_option maxHeartbeats 4000000 in
set_option maxRecDepth 100000 in
theorem c_X0_valueA (l : Launch) (dC : Nat → ClassId) (dI : Nat → Nat → Nat) (cI cJ : ClassId) (q : Nat → Nat) (G : GL) (n : Nat) (hn : n ≤ 20) (g : Nat) (hg : g < n) : Met l yX0_valueA wsX0_valueA ({ frames := 0, cells := 0, slots := 0, locals := 0 }) (va_Pc [.ref (q 3), .int (nI g)] (RO (dC, dI) (tyK cI cJ) ([(q 3, .inr (0, [.ref (q 4), .ref (q 5), .ref (q 6), .ref (q 7), .int (nI n)])), (q 4, .inl (cJ, 20, .inr (.inl (gK G)))), (q 5, .inl (cI, 20, .inl (gF G))), (q 6, .inl (cI, 20, .inl (gD G))), (q 7, .inl (cI, 20, .inl (gC G)))]))) (vp_Sl (fun r => r = vA G g)) 0 0 (fun _ => False) := by
  refine Met.ofW (cc := cX0_valueA) (maxL := 2) (ret := (some .long)) (by decide) rfl ?_
  intro p e s m args below meth c s₁ B hml hv
  obtain ⟨rfl, hP, hK, hN⟩ := hv
  have hx := B.exec
  have hb := B.bytes
  have hr := B.returns
  have hts := atoms_spec (ws := wsX0_valueA) B.pre
  have hown : s.vm.findClass RX0 = some m.cls := findClass_of_methodNamed B.named
  have hlocks := B.notSynchronized
  have hP : va_P (dC, dI) vwCl [(q 3, .inr (0, [.ref (q 4), .ref (q 5), .ref (q 6), .ref (q 7), .int (nI n)])), (q 4, .inl (cJ, 20, .inr (.inl (gK G)))), (q 5, .inl (cI, 20, .inl (gF G))), (q 6, .inl (cI, 20, .inl (gD G))), (q 7, .inl (cI, 20, .inl (gC G)))] s.heap := hP
  have hl := lv_entry ([.ref (q 3), .int (nI g)]) (n := 2) (Nat.le_of_ble_eq_true rfl)
  rw [lg_entry_eq]
  generalize (lg_sl ([.ref (q 3), .int (nI g)]) ++ List.replicate (2 - (lg_sl ([.ref (q 3), .int (nI g)])).length) Slot.unset).toArray = ls at hl ⊢
  have hl : lv_has ls 2 [(0, .ref (q 3)), (1, .int (nI g))] := hl
  refine lv_aload_n hx hb dX0_valueA_0 rfl (lv_at hl 0 rfl) ?_
  refine va_get (D := (dC, dI)) (ci := 0) (v := .ref (q 6)) (C := RX0) (T := TX0) (N := 5) hx hb hts (by decide +kernel) hown hK hP 0 rfl rfl 2 (by decide) (hts (.fieldLink RX0 19 "AchromatDesk$Catalogue" "indicesD" "[I") (by decide +kernel)) (fun _ h9 => h9) rfl dX0_valueA_1 ?_
  refine lv_iload_n hx hb dX0_valueA_4 rfl (lv_at hl 1 rfl) ?_
  refine ar_iald hx hb hK hP 3 0 rfl rfl g rfl (by omega) (by omega) dX0_valueA_5 ?_
  refine lv_ldc (v := 100000) hx hb hown (hts (.constant RX0 49 (100000)) (by decide +kernel)) dX0_valueA_6 ?_
  refine lv_isub hx hb dX0_valueA_8 ?_
  refine lv_i2l (v := (((gD G) g) - 100000).toInt64) hx hb dX0_valueA_9 rfl ?_
  exact W.lret hx hb hr (fun t ht hW => ⟨_, rfl, rfl, ht⟩) (fun _ h => absurd h List.not_mem_nil) dX0_valueA_10

set_option maxHeartbeats 4000000 in
set_option maxRecDepth 100000 in
theorem c_X0_valueB (l : Launch) (dC : Nat → ClassId) (dI : Nat → Nat → Nat) (cI cJ : ClassId) (q : Nat → Nat) (G : GL) (n : Nat) (hn : n ≤ 20) (g : Nat) (hg : g < n) : Met l yX0_valueB wsX0_valueB ({ frames := 0, cells := 0, slots := 0, locals := 0 }) (va_Pc [.ref (q 3), .int (nI g)] (RO (dC, dI) (tyK cI cJ) ([(q 3, .inr (0, [.ref (q 4), .ref (q 5), .ref (q 6), .ref (q 7), .int (nI n)])), (q 4, .inl (cJ, 20, .inr (.inl (gK G)))), (q 5, .inl (cI, 20, .inl (gF G))), (q 6, .inl (cI, 20, .inl (gD G))), (q 7, .inl (cI, 20, .inl (gC G)))]))) (vp_Sl (fun r => r = vB G g)) 0 0 (fun _ => False) := by
  refine Met.ofW (cc := cX0_valueB) (maxL := 2) (ret := (some .long)) (by decide) rfl ?_
  intro p e s m args below meth c s₁ B hml hv
  obtain ⟨rfl, hP, hK, hN⟩ := hv
  have hx := B.exec
  have hb := B.bytes
  have hr := B.returns
  have hts := atoms_spec (ws := wsX0_valueB) B.pre
  have hown : s.vm.findClass RX0 = some m.cls := findClass_of_methodNamed B.named
  have hlocks := B.notSynchronized
  have hP : va_P (dC, dI) vwCl [(q 3, .inr (0, [.ref (q 4), .ref (q 5), .ref (q 6), .ref (q 7), .int (nI n)])), (q 4, .inl (cJ, 20, .inr (.inl (gK G)))), (q 5, .inl (cI, 20, .inl (gF G))), (q 6, .inl (cI, 20, .inl (gD G))), (q 7, .inl (cI, 20, .inl (gC G)))] s.heap := hP
  have hl := lv_entry ([.ref (q 3), .int (nI g)]) (n := 2) (Nat.le_of_ble_eq_true rfl)
  rw [lg_entry_eq]
  generalize (lg_sl ([.ref (q 3), .int (nI g)]) ++ List.replicate (2 - (lg_sl ([.ref (q 3), .int (nI g)])).length) Slot.unset).toArray = ls at hl ⊢
  have hl : lv_has ls 2 [(0, .ref (q 3)), (1, .int (nI g))] := hl
  refine lv_aload_n hx hb dX0_valueB_0 rfl (lv_at hl 0 rfl) ?_
  refine va_get (D := (dC, dI)) (ci := 0) (v := .ref (q 5)) (C := RX0) (T := TX0) (N := 5) hx hb hts (by decide +kernel) hown hK hP 0 rfl rfl 1 (by decide) (hts (.fieldLink RX0 15 "AchromatDesk$Catalogue" "indicesF" "[I") (by decide +kernel)) (fun _ h9 => h9) rfl dX0_valueB_1 ?_
  refine lv_iload_n hx hb dX0_valueB_4 rfl (lv_at hl 1 rfl) ?_
  refine ar_iald hx hb hK hP 2 0 rfl rfl g rfl (by omega) (by omega) dX0_valueB_5 ?_
  refine lv_aload_n hx hb dX0_valueB_6 rfl (lv_at hl 0 rfl) ?_
  refine va_get (D := (dC, dI)) (ci := 0) (v := .ref (q 7)) (C := RX0) (T := TX0) (N := 5) hx hb hts (by decide +kernel) hown hK hP 0 rfl rfl 3 (by decide) (hts (.fieldLink RX0 22 "AchromatDesk$Catalogue" "indicesC" "[I") (by decide +kernel)) (fun _ h9 => h9) rfl dX0_valueB_7 ?_
  refine lv_iload_n hx hb dX0_valueB_10 rfl (lv_at hl 1 rfl) ?_
  refine ar_iald hx hb hK hP 4 0 rfl rfl g rfl (by omega) (by omega) dX0_valueB_11 ?_
  refine lv_isub hx hb dX0_valueB_12 ?_
  refine lv_i2l (v := (((gF G) g) - ((gC G) g)).toInt64) hx hb dX0_valueB_13 rfl ?_
  exact W.lret hx hb hr (fun t ht hW => ⟨_, rfl, rfl, ht⟩) (fun _ h => absurd h List.not_mem_nil) dX0_valueB_14

set_option maxHeartbeats 4000000 in
set_option maxRecDepth 100000 in
theorem c_X0_valueD (l : Launch) (dC : Nat → ClassId) (dI : Nat → Nat → Nat) (cI cJ : ClassId) (q : Nat → Nat) (G : GL) (n : Nat) (hn : n ≤ 20) (g : Nat) (hg : g < n) : Met l yX0_valueD wsX0_valueD ({ frames := 0, cells := 0, slots := 0, locals := 0 }) (va_Pc [.ref (q 3), .int (nI g)] (RO (dC, dI) (tyK cI cJ) ([(q 3, .inr (0, [.ref (q 4), .ref (q 5), .ref (q 6), .ref (q 7), .int (nI n)])), (q 4, .inl (cJ, 20, .inr (.inl (gK G)))), (q 5, .inl (cI, 20, .inl (gF G))), (q 6, .inl (cI, 20, .inl (gD G))), (q 7, .inl (cI, 20, .inl (gC G)))]))) (vp_Sl (fun r => r = vD G g)) 0 0 (fun _ => False) := by
  refine Met.ofW (cc := cX0_valueD) (maxL := 2) (ret := (some .long)) (by decide) rfl ?_
  intro p e s m args below meth c s₁ B hml hv
  obtain ⟨rfl, hP, hK, hN⟩ := hv
  have hx := B.exec
  have hb := B.bytes
  have hr := B.returns
  have hts := atoms_spec (ws := wsX0_valueD) B.pre
  have hown : s.vm.findClass RX0 = some m.cls := findClass_of_methodNamed B.named
  have hlocks := B.notSynchronized
  have hP : va_P (dC, dI) vwCl [(q 3, .inr (0, [.ref (q 4), .ref (q 5), .ref (q 6), .ref (q 7), .int (nI n)])), (q 4, .inl (cJ, 20, .inr (.inl (gK G)))), (q 5, .inl (cI, 20, .inl (gF G))), (q 6, .inl (cI, 20, .inl (gD G))), (q 7, .inl (cI, 20, .inl (gC G)))] s.heap := hP
  have hl := lv_entry ([.ref (q 3), .int (nI g)]) (n := 2) (Nat.le_of_ble_eq_true rfl)
  rw [lg_entry_eq]
  generalize (lg_sl ([.ref (q 3), .int (nI g)]) ++ List.replicate (2 - (lg_sl ([.ref (q 3), .int (nI g)])).length) Slot.unset).toArray = ls at hl ⊢
  have hl : lv_has ls 2 [(0, .ref (q 3)), (1, .int (nI g))] := hl
  refine lv_aload_n hx hb dX0_valueD_0 rfl (lv_at hl 0 rfl) ?_
  refine va_get (D := (dC, dI)) (ci := 0) (v := .ref (q 5)) (C := RX0) (T := TX0) (N := 5) hx hb hts (by decide +kernel) hown hK hP 0 rfl rfl 1 (by decide) (hts (.fieldLink RX0 15 "AchromatDesk$Catalogue" "indicesF" "[I") (by decide +kernel)) (fun _ h9 => h9) rfl dX0_valueD_1 ?_
  refine lv_iload_n hx hb dX0_valueD_4 rfl (lv_at hl 1 rfl) ?_
  refine ar_iald hx hb hK hP 2 0 rfl rfl g rfl (by omega) (by omega) dX0_valueD_5 ?_
  refine lv_aload_n hx hb dX0_valueD_6 rfl (lv_at hl 0 rfl) ?_
  refine va_get (D := (dC, dI)) (ci := 0) (v := .ref (q 6)) (C := RX0) (T := TX0) (N := 5) hx hb hts (by decide +kernel) hown hK hP 0 rfl rfl 2 (by decide) (hts (.fieldLink RX0 19 "AchromatDesk$Catalogue" "indicesD" "[I") (by decide +kernel)) (fun _ h9 => h9) rfl dX0_valueD_7 ?_
  refine lv_iload_n hx hb dX0_valueD_10 rfl (lv_at hl 1 rfl) ?_
  refine ar_iald hx hb hK hP 3 0 rfl rfl g rfl (by omega) (by omega) dX0_valueD_11 ?_
  refine lv_isub hx hb dX0_valueD_12 ?_
  refine lv_i2l (v := (((gF G) g) - ((gD G) g)).toInt64) hx hb dX0_valueD_13 rfl ?_
  exact W.lret hx hb hr (fun t ht hW => ⟨_, rfl, rfl, ht⟩) (fun _ h => absurd h List.not_mem_nil) dX0_valueD_14

set_option maxHeartbeats 4000000 in
set_option maxRecDepth 100000 in
theorem c_X0_valueE (l : Launch) (dC : Nat → ClassId) (dI : Nat → Nat → Nat) (cI cJ : ClassId) (q : Nat → Nat) (G : GL) (n : Nat) (hn : n ≤ 20) (i j : Nat) (hi : i < n) (hj : j < n) : Met l yX0_valueE wsX0_valueE ({ frames := 1, cells := 0, slots := 0, locals := 21 }) (va_Pc [.ref (q 3), .int (nI i), .int (nI j)] (RO (dC, dI) (tyK cI cJ) ([(q 3, .inr (0, [.ref (q 4), .ref (q 5), .ref (q 6), .ref (q 7), .int (nI n)])), (q 4, .inl (cJ, 20, .inr (.inl (gK G)))), (q 5, .inl (cI, 20, .inl (gF G))), (q 6, .inl (cI, 20, .inl (gD G))), (q 7, .inl (cI, 20, .inl (gC G)))]))) (vp_Sl (fun r => r = vE G i j)) 0 0 (fun _ => False) := by
  refine Met.ofW (cc := cX0_valueE) (maxL := 3) (ret := (some .long)) (by decide) rfl ?_
  intro p e s m args below meth c s₁ B hml hv
  obtain ⟨rfl, hP, hK, hN⟩ := hv
  have hx := B.exec
  have hb := B.bytes
  have hr := B.returns
  have hts := atoms_spec (ws := wsX0_valueE) B.pre
  have hown : s.vm.findClass RX0 = some m.cls := findClass_of_methodNamed B.named
  have hlocks := B.notSynchronized
  have hP : va_P (dC, dI) vwCl [(q 3, .inr (0, [.ref (q 4), .ref (q 5), .ref (q 6), .ref (q 7), .int (nI n)])), (q 4, .inl (cJ, 20, .inr (.inl (gK G)))), (q 5, .inl (cI, 20, .inl (gF G))), (q 6, .inl (cI, 20, .inl (gD G))), (q 7, .inl (cI, 20, .inl (gC G)))] s.heap := hP
  have hl := lv_entry ([.ref (q 3), .int (nI i), .int (nI j)]) (n := 3) (Nat.le_of_ble_eq_true rfl)
  rw [lg_entry_eq]
  generalize (lg_sl ([.ref (q 3), .int (nI i), .int (nI j)]) ++ List.replicate (3 - (lg_sl ([.ref (q 3), .int (nI i), .int (nI j)])).length) Slot.unset).toArray = ls at hl ⊢
  have hl : lv_has ls 3 [(0, .ref (q 3)), (1, .int (nI i)), (2, .int (nI j))] := hl
  refine lv_aload_n hx hb dX0_valueE_0 rfl (lv_at hl 0 rfl) ?_
  refine lv_iload_n hx hb dX0_valueE_1 rfl (lv_at hl 1 rfl) ?_
  refine roVl (As := [.int (nI i)]) (rest := []) (c_X0_valueA l dC dI cI cJ q G n hn i (by omega)) ⟨hx, hb, hml, hown, hts⟩ (cwV 1 hts gX0_valueE_X0_valueA rfl rfl rfl (by decide +kernel) ⟨Nat.le_of_ble_eq_true rfl, Nat.le_of_ble_eq_true rfl⟩) (hP.sub [0, 1, 2, 3, 4] rfl) hK hN (ci := 0) rfl rfl rfl hl.1 rfl (Nat.le_of_ble_eq_true rfl) dX0_valueE_2 ⟨Nat.zero_le _, Nat.zero_le _⟩ (fun r hr0 => ?_)
  subst hr0
  refine lv_aload_n hx hb dX0_valueE_5 rfl (lv_at hl 0 rfl) ?_
  refine lv_iload_n hx hb dX0_valueE_6 rfl (lv_at hl 2 rfl) ?_
  refine roVl (As := [.int (nI j)]) (rest := [.long (vA G i)]) (c_X0_valueB l dC dI cI cJ q G n hn j (by omega)) ⟨hx, hb, hml, hown, hts⟩ (cwV 1 hts gX0_valueE_X0_valueB rfl rfl rfl (by decide +kernel) ⟨Nat.le_of_ble_eq_true rfl, Nat.le_of_ble_eq_true rfl⟩) (hP.sub [0, 1, 2, 3, 4] rfl) hK hN (ci := 0) rfl rfl rfl hl.1 rfl (Nat.le_of_ble_eq_true rfl) dX0_valueE_7 ⟨Nat.zero_le _, Nat.zero_le _⟩ (fun r hr0 => ?_)
  subst hr0
  refine lv_lmul hx hb dX0_valueE_10 ?_
  refine lv_aload_n hx hb dX0_valueE_11 rfl (lv_at hl 0 rfl) ?_
  refine lv_iload_n hx hb dX0_valueE_12 rfl (lv_at hl 2 rfl) ?_
  refine roVl (As := [.int (nI j)]) (rest := [.long ((vA G i) * (vB G j))]) (c_X0_valueA l dC dI cI cJ q G n hn j (by omega)) ⟨hx, hb, hml, hown, hts⟩ (cwV 1 hts gX0_valueE_X0_valueA rfl rfl rfl (by decide +kernel) ⟨Nat.le_of_ble_eq_true rfl, Nat.le_of_ble_eq_true rfl⟩) (hP.sub [0, 1, 2, 3, 4] rfl) hK hN (ci := 0) rfl rfl rfl hl.1 rfl (Nat.le_of_ble_eq_true rfl) dX0_valueE_13 ⟨Nat.zero_le _, Nat.zero_le _⟩ (fun r hr0 => ?_)
  subst hr0
  refine lv_aload_n hx hb dX0_valueE_16 rfl (lv_at hl 0 rfl) ?_
  refine lv_iload_n hx hb dX0_valueE_17 rfl (lv_at hl 1 rfl) ?_
  refine roVl (As := [.int (nI i)]) (rest := [.long (vA G j), .long ((vA G i) * (vB G j))]) (c_X0_valueB l dC dI cI cJ q G n hn i (by omega)) ⟨hx, hb, hml, hown, hts⟩ (cwV 1 hts gX0_valueE_X0_valueB rfl rfl rfl (by decide +kernel) ⟨Nat.le_of_ble_eq_true rfl, Nat.le_of_ble_eq_true rfl⟩) (hP.sub [0, 1, 2, 3, 4] rfl) hK hN (ci := 0) rfl rfl rfl hl.1 rfl (Nat.le_of_ble_eq_true rfl) dX0_valueE_18 ⟨Nat.zero_le _, Nat.zero_le _⟩ (fun r hr0 => ?_)
  subst hr0
  refine lv_lmul hx hb dX0_valueE_21 ?_
  refine lv_lsub hx hb dX0_valueE_22 ?_
  exact W.lret hx hb hr (fun t ht hW => ⟨_, rfl, rfl, ht⟩) (fun _ h => absurd h List.not_mem_nil) dX0_valueE_23

set_option maxHeartbeats 4000000 in
set_option maxRecDepth 100000 in
theorem c_X0_valueX (l : Launch) (dC : Nat → ClassId) (dI : Nat → Nat → Nat) (cI cJ : ClassId) (q : Nat → Nat) (G : GL) (n : Nat) (hn : n ≤ 20) (i j : Nat) (hi : i < n) (hj : j < n) : Met l yX0_valueX wsX0_valueX ({ frames := 1, cells := 0, slots := 0, locals := 21 }) (va_Pc [.ref (q 3), .int (nI i), .int (nI j)] (RO (dC, dI) (tyK cI cJ) ([(q 3, .inr (0, [.ref (q 4), .ref (q 5), .ref (q 6), .ref (q 7), .int (nI n)])), (q 4, .inl (cJ, 20, .inr (.inl (gK G)))), (q 5, .inl (cI, 20, .inl (gF G))), (q 6, .inl (cI, 20, .inl (gD G))), (q 7, .inl (cI, 20, .inl (gC G)))]))) (vp_Sl (fun r => r = vX G i j)) 0 0 (fun _ => False) := by
  refine Met.ofW (cc := cX0_valueX) (maxL := 3) (ret := (some .long)) (by decide) rfl ?_
  intro p e s m args below meth c s₁ B hml hv
  obtain ⟨rfl, hP, hK, hN⟩ := hv
  have hx := B.exec
  have hb := B.bytes
  have hr := B.returns
  have hts := atoms_spec (ws := wsX0_valueX) B.pre
  have hown : s.vm.findClass RX0 = some m.cls := findClass_of_methodNamed B.named
  have hlocks := B.notSynchronized
  have hP : va_P (dC, dI) vwCl [(q 3, .inr (0, [.ref (q 4), .ref (q 5), .ref (q 6), .ref (q 7), .int (nI n)])), (q 4, .inl (cJ, 20, .inr (.inl (gK G)))), (q 5, .inl (cI, 20, .inl (gF G))), (q 6, .inl (cI, 20, .inl (gD G))), (q 7, .inl (cI, 20, .inl (gC G)))] s.heap := hP
  have hl := lv_entry ([.ref (q 3), .int (nI i), .int (nI j)]) (n := 3) (Nat.le_of_ble_eq_true rfl)
  rw [lg_entry_eq]
  generalize (lg_sl ([.ref (q 3), .int (nI i), .int (nI j)]) ++ List.replicate (3 - (lg_sl ([.ref (q 3), .int (nI i), .int (nI j)])).length) Slot.unset).toArray = ls at hl ⊢
  have hl : lv_has ls 3 [(0, .ref (q 3)), (1, .int (nI i)), (2, .int (nI j))] := hl
  refine lv_aload_n hx hb dX0_valueX_0 rfl (lv_at hl 0 rfl) ?_
  refine lv_iload_n hx hb dX0_valueX_1 rfl (lv_at hl 1 rfl) ?_
  refine roVl (As := [.int (nI i)]) (rest := []) (c_X0_valueB l dC dI cI cJ q G n hn i (by omega)) ⟨hx, hb, hml, hown, hts⟩ (cwV 1 hts gX0_valueX_X0_valueB rfl rfl rfl (by decide +kernel) ⟨Nat.le_of_ble_eq_true rfl, Nat.le_of_ble_eq_true rfl⟩) (hP.sub [0, 1, 2, 3, 4] rfl) hK hN (ci := 0) rfl rfl rfl hl.1 rfl (Nat.le_of_ble_eq_true rfl) dX0_valueX_2 ⟨Nat.zero_le _, Nat.zero_le _⟩ (fun r hr0 => ?_)
  subst hr0
  refine lv_aload_n hx hb dX0_valueX_5 rfl (lv_at hl 0 rfl) ?_
  refine lv_iload_n hx hb dX0_valueX_6 rfl (lv_at hl 2 rfl) ?_
  refine roVl (As := [.int (nI j)]) (rest := [.long (vB G i)]) (c_X0_valueD l dC dI cI cJ q G n hn j (by omega)) ⟨hx, hb, hml, hown, hts⟩ (cwV 1 hts gX0_valueX_X0_valueD rfl rfl rfl (by decide +kernel) ⟨Nat.le_of_ble_eq_true rfl, Nat.le_of_ble_eq_true rfl⟩) (hP.sub [0, 1, 2, 3, 4] rfl) hK hN (ci := 0) rfl rfl rfl hl.1 rfl (Nat.le_of_ble_eq_true rfl) dX0_valueX_7 ⟨Nat.zero_le _, Nat.zero_le _⟩ (fun r hr0 => ?_)
  subst hr0
  refine lv_lmul hx hb dX0_valueX_10 ?_
  refine lv_aload_n hx hb dX0_valueX_11 rfl (lv_at hl 0 rfl) ?_
  refine lv_iload_n hx hb dX0_valueX_12 rfl (lv_at hl 2 rfl) ?_
  refine roVl (As := [.int (nI j)]) (rest := [.long ((vB G i) * (vD G j))]) (c_X0_valueB l dC dI cI cJ q G n hn j (by omega)) ⟨hx, hb, hml, hown, hts⟩ (cwV 1 hts gX0_valueX_X0_valueB rfl rfl rfl (by decide +kernel) ⟨Nat.le_of_ble_eq_true rfl, Nat.le_of_ble_eq_true rfl⟩) (hP.sub [0, 1, 2, 3, 4] rfl) hK hN (ci := 0) rfl rfl rfl hl.1 rfl (Nat.le_of_ble_eq_true rfl) dX0_valueX_13 ⟨Nat.zero_le _, Nat.zero_le _⟩ (fun r hr0 => ?_)
  subst hr0
  refine lv_aload_n hx hb dX0_valueX_16 rfl (lv_at hl 0 rfl) ?_
  refine lv_iload_n hx hb dX0_valueX_17 rfl (lv_at hl 1 rfl) ?_
  refine roVl (As := [.int (nI i)]) (rest := [.long (vB G j), .long ((vB G i) * (vD G j))]) (c_X0_valueD l dC dI cI cJ q G n hn i (by omega)) ⟨hx, hb, hml, hown, hts⟩ (cwV 1 hts gX0_valueX_X0_valueD rfl rfl rfl (by decide +kernel) ⟨Nat.le_of_ble_eq_true rfl, Nat.le_of_ble_eq_true rfl⟩) (hP.sub [0, 1, 2, 3, 4] rfl) hK hN (ci := 0) rfl rfl rfl hl.1 rfl (Nat.le_of_ble_eq_true rfl) dX0_valueX_18 ⟨Nat.zero_le _, Nat.zero_le _⟩ (fun r hr0 => ?_)
  subst hr0
  refine lv_lmul hx hb dX0_valueX_21 ?_
  refine lv_lsub hx hb dX0_valueX_22 ?_
  exact W.lret hx hb hr (fun t ht hW => ⟨_, rfl, rfl, ht⟩) (fun _ h => absurd h List.not_mem_nil) dX0_valueX_23

set_option maxHeartbeats 4000000 in
set_option maxRecDepth 100000 in
theorem c_X0_tripletShare (l : Launch) (dC : Nat → ClassId) (dI : Nat → Nat → Nat) (cI cJ : ClassId) (q : Nat → Nat) (G : GL) (n : Nat) (hn : n ≤ 20) (i j k : Nat) (hi : i < n) (hj : j < n) (hk : k < n) : Met l yX0_tripletShare wsX0_tripletShare ({ frames := 2, cells := 0, slots := 0, locals := 43 }) (va_Pc [.ref (q 3), .int (nI i), .int (nI j), .int (nI k)] (RO (dC, dI) (tyK cI cJ) ([(q 3, .inr (0, [.ref (q 4), .ref (q 5), .ref (q 6), .ref (q 7), .int (nI n)])), (q 4, .inl (cJ, 20, .inr (.inl (gK G)))), (q 5, .inl (cI, 20, .inl (gF G))), (q 6, .inl (cI, 20, .inl (gD G))), (q 7, .inl (cI, 20, .inl (gC G)))]))) (vp_Sl (fun r => r = vT G i j k)) 0 0 (fun _ => False) := by
  refine Met.ofW (cc := cX0_tripletShare) (maxL := 4) (ret := (some .long)) (by decide) rfl ?_
  intro p e s m args below meth c s₁ B hml hv
  obtain ⟨rfl, hP, hK, hN⟩ := hv
  have hx := B.exec
  have hb := B.bytes
  have hr := B.returns
  have hts := atoms_spec (ws := wsX0_tripletShare) B.pre
  have hown : s.vm.findClass RX0 = some m.cls := findClass_of_methodNamed B.named
  have hlocks := B.notSynchronized
  have hP : va_P (dC, dI) vwCl [(q 3, .inr (0, [.ref (q 4), .ref (q 5), .ref (q 6), .ref (q 7), .int (nI n)])), (q 4, .inl (cJ, 20, .inr (.inl (gK G)))), (q 5, .inl (cI, 20, .inl (gF G))), (q 6, .inl (cI, 20, .inl (gD G))), (q 7, .inl (cI, 20, .inl (gC G)))] s.heap := hP
  have hl := lv_entry ([.ref (q 3), .int (nI i), .int (nI j), .int (nI k)]) (n := 4) (Nat.le_of_ble_eq_true rfl)
  rw [lg_entry_eq]
  generalize (lg_sl ([.ref (q 3), .int (nI i), .int (nI j), .int (nI k)]) ++ List.replicate (4 - (lg_sl ([.ref (q 3), .int (nI i), .int (nI j), .int (nI k)])).length) Slot.unset).toArray = ls at hl ⊢
  have hl : lv_has ls 4 [(0, .ref (q 3)), (1, .int (nI i)), (2, .int (nI j)), (3, .int (nI k))] := hl
  refine lv_aload_n hx hb dX0_tripletShare_0 rfl (lv_at hl 0 rfl) ?_
  refine lv_iload_n hx hb dX0_tripletShare_1 rfl (lv_at hl 1 rfl) ?_
  refine roVl (As := [.int (nI i)]) (rest := []) (c_X0_valueA l dC dI cI cJ q G n hn i (by omega)) ⟨hx, hb, hml, hown, hts⟩ (cwV 1 hts gX0_tripletShare_X0_valueA rfl rfl rfl (by decide +kernel) ⟨Nat.le_of_ble_eq_true rfl, Nat.le_of_ble_eq_true rfl⟩) (hP.sub [0, 1, 2, 3, 4] rfl) hK hN (ci := 0) rfl rfl rfl hl.1 rfl (Nat.le_of_ble_eq_true rfl) dX0_tripletShare_2 ⟨Nat.zero_le _, Nat.zero_le _⟩ (fun r hr0 => ?_)
  subst hr0
  refine lv_aload_n hx hb dX0_tripletShare_5 rfl (lv_at hl 0 rfl) ?_
  refine lv_iload_n hx hb dX0_tripletShare_6 rfl (lv_at hl 2 rfl) ?_
  refine lv_iload_n hx hb dX0_tripletShare_7 rfl (lv_at hl 3 rfl) ?_
  refine roVl (As := [.int (nI j), .int (nI k)]) (rest := [.long (vA G i)]) (c_X0_valueX l dC dI cI cJ q G n hn j k (by omega) (by omega)) ⟨hx, hb, hml, hown, hts⟩ (cwV 2 hts gX0_tripletShare_X0_valueX rfl rfl rfl (by decide +kernel) ⟨Nat.le_of_ble_eq_true rfl, Nat.le_of_ble_eq_true rfl⟩) (hP.sub [0, 1, 2, 3, 4] rfl) hK hN (ci := 0) rfl rfl rfl hl.1 rfl (Nat.le_of_ble_eq_true rfl) dX0_tripletShare_8 ⟨Nat.zero_le _, Nat.zero_le _⟩ (fun r hr0 => ?_)
  subst hr0
  refine lv_lmul hx hb dX0_tripletShare_11 ?_
  exact W.lret hx hb hr (fun t ht hW => ⟨_, rfl, rfl, ht⟩) (fun _ h => absurd h List.not_mem_nil) dX0_tripletShare_12

set_option maxHeartbeats 4000000 in
set_option maxRecDepth 100000 in
theorem c_X0_abbeNumber (l : Launch) (dC : Nat → ClassId) (dI : Nat → Nat → Nat) (cI cJ : ClassId) (q : Nat → Nat) (G : GL) (n : Nat) (hn : n ≤ 20) (g : Nat) (hg : g < n) : Met l yX0_abbeNumber wsX0_abbeNumber ({ frames := 2, cells := 0, slots := 0, locals := 48 }) (va_Pc [.ref (q 3), .int (nI g)] (RO (dC, dI) (tyK cI cJ) ([(q 3, .inr (0, [.ref (q 4), .ref (q 5), .ref (q 6), .ref (q 7), .int (nI n)])), (q 4, .inl (cJ, 20, .inr (.inl (gK G)))), (q 5, .inl (cI, 20, .inl (gF G))), (q 6, .inl (cI, 20, .inl (gD G))), (q 7, .inl (cI, 20, .inl (gC G)))]))) (vp_Sl (fun r => r = vAbb G g)) 0 0 (fun _ => False) := by
  refine Met.ofW (cc := cX0_abbeNumber) (maxL := 2) (ret := (some .long)) (by decide) rfl ?_
  intro p e s m args below meth c s₁ B hml hv
  obtain ⟨rfl, hP, hK, hN⟩ := hv
  have hx := B.exec
  have hb := B.bytes
  have hr := B.returns
  have hts := atoms_spec (ws := wsX0_abbeNumber) B.pre
  have hown : s.vm.findClass RX0 = some m.cls := findClass_of_methodNamed B.named
  have hlocks := B.notSynchronized
  have hP : va_P (dC, dI) vwCl [(q 3, .inr (0, [.ref (q 4), .ref (q 5), .ref (q 6), .ref (q 7), .int (nI n)])), (q 4, .inl (cJ, 20, .inr (.inl (gK G)))), (q 5, .inl (cI, 20, .inl (gF G))), (q 6, .inl (cI, 20, .inl (gD G))), (q 7, .inl (cI, 20, .inl (gC G)))] s.heap := hP
  have hl := lv_entry ([.ref (q 3), .int (nI g)]) (n := 2) (Nat.le_of_ble_eq_true rfl)
  rw [lg_entry_eq]
  generalize (lg_sl ([.ref (q 3), .int (nI g)]) ++ List.replicate (2 - (lg_sl ([.ref (q 3), .int (nI g)])).length) Slot.unset).toArray = ls at hl ⊢
  have hl : lv_has ls 2 [(0, .ref (q 3)), (1, .int (nI g))] := hl
  refine lv_ldc2 (v := 1000) hx hb hown (hts (.constantLong RX0 33 (1000)) (by decide +kernel)) dX0_abbeNumber_0 ?_
  refine lv_aload_n hx hb dX0_abbeNumber_3 rfl (lv_at hl 0 rfl) ?_
  refine lv_iload_n hx hb dX0_abbeNumber_4 rfl (lv_at hl 1 rfl) ?_
  refine roVl (As := [.int (nI g)]) (rest := [.long 1000]) (c_X0_valueA l dC dI cI cJ q G n hn g (by omega)) ⟨hx, hb, hml, hown, hts⟩ (cwV 1 hts gX0_abbeNumber_X0_valueA rfl rfl rfl (by decide +kernel) ⟨Nat.le_of_ble_eq_true rfl, Nat.le_of_ble_eq_true rfl⟩) (hP.sub [0, 1, 2, 3, 4] rfl) hK hN (ci := 0) rfl rfl rfl hl.1 rfl (Nat.le_of_ble_eq_true rfl) dX0_abbeNumber_5 ⟨Nat.zero_le _, Nat.zero_le _⟩ (fun r hr0 => ?_)
  subst hr0
  refine lv_lmul hx hb dX0_abbeNumber_8 ?_
  refine lv_aload_n hx hb dX0_abbeNumber_9 rfl (lv_at hl 0 rfl) ?_
  refine lv_iload_n hx hb dX0_abbeNumber_10 rfl (lv_at hl 1 rfl) ?_
  refine roVl (As := [.int (nI g)]) (rest := [.long (1000 * (vA G g))]) (c_X0_valueB l dC dI cI cJ q G n hn g (by omega)) ⟨hx, hb, hml, hown, hts⟩ (cwV 1 hts gX0_abbeNumber_X0_valueB rfl rfl rfl (by decide +kernel) ⟨Nat.le_of_ble_eq_true rfl, Nat.le_of_ble_eq_true rfl⟩) (hP.sub [0, 1, 2, 3, 4] rfl) hK hN (ci := 0) rfl rfl rfl hl.1 rfl (Nat.le_of_ble_eq_true rfl) dX0_abbeNumber_11 ⟨Nat.zero_le _, Nat.zero_le _⟩ (fun r hr0 => ?_)
  subst hr0
  refine nsSl (As := [.long (1000 * (vA G g)), .long (vB G g)]) (rest := []) (c_X5_floorQuotient l (1000 * (vA G g)) (vB G g)) ⟨hx, hb, hml, hown, hts⟩ (va_cnB 2 hts gX0_abbeNumber_X5_floorQuotient_n42 rfl rfl rfl (hN.at 11 rfl) (hts (.initialized RX5) (by decide +kernel)) (by decide +kernel) ⟨Nat.le_of_ble_eq_true rfl, Nat.le_of_ble_eq_true rfl⟩) (hts (.static yX5_floorQuotient) (by decide +kernel)) rfl hl.1 rfl (Nat.le_of_ble_eq_true rfl) dX0_abbeNumber_14 ⟨Nat.zero_le _, Nat.zero_le _⟩ (fun r hr0 => ?_)
  subst hr0
  exact W.lret hx hb hr (fun t ht hW => ⟨_, rfl, rfl, ht⟩) (fun _ h => absurd h List.not_mem_nil) dX0_abbeNumber_17

set_option maxHeartbeats 4000000 in
set_option maxRecDepth 100000 in
theorem c_X0_indexFor (l : Launch) (dC : Nat → ClassId) (dI : Nat → Nat → Nat) (cI cJ : ClassId) (q : Nat → Nat) (G : GL) (n : Nat) (hn : n ≤ 20) (g : Nat) (hg : g < n) (cl : Int32) : Met l yX0_indexFor wsX0_indexFor ({ frames := 0, cells := 0, slots := 0, locals := 0 }) (va_Pc [.ref (q 3), .int (nI g), .int cl] (RO (dC, dI) (tyK cI cJ) ([(q 3, .inr (0, [.ref (q 4), .ref (q 5), .ref (q 6), .ref (q 7), .int (nI n)])), (q 4, .inl (cJ, 20, .inr (.inl (gK G)))), (q 5, .inl (cI, 20, .inl (gF G))), (q 6, .inl (cI, 20, .inl (gD G))), (q 7, .inl (cI, 20, .inl (gC G)))]))) (vp_Sl (fun r => r = (vN G g cl).toInt64)) 0 0 (fun _ => False) := by
  refine Met.ofW (cc := cX0_indexFor) (maxL := 3) (ret := (some .long)) (by decide) rfl ?_
  intro p e s m args below meth c s₁ B hml hv
  obtain ⟨rfl, hP, hK, hN⟩ := hv
  have hx := B.exec
  have hb := B.bytes
  have hr := B.returns
  have hts := atoms_spec (ws := wsX0_indexFor) B.pre
  have hown : s.vm.findClass RX0 = some m.cls := findClass_of_methodNamed B.named
  have hlocks := B.notSynchronized
  have hP : va_P (dC, dI) vwCl [(q 3, .inr (0, [.ref (q 4), .ref (q 5), .ref (q 6), .ref (q 7), .int (nI n)])), (q 4, .inl (cJ, 20, .inr (.inl (gK G)))), (q 5, .inl (cI, 20, .inl (gF G))), (q 6, .inl (cI, 20, .inl (gD G))), (q 7, .inl (cI, 20, .inl (gC G)))] s.heap := hP
  have hl := lv_entry ([.ref (q 3), .int (nI g), .int cl]) (n := 3) (Nat.le_of_ble_eq_true rfl)
  rw [lg_entry_eq]
  generalize (lg_sl ([.ref (q 3), .int (nI g), .int cl]) ++ List.replicate (3 - (lg_sl ([.ref (q 3), .int (nI g), .int cl])).length) Slot.unset).toArray = ls at hl ⊢
  have hl : lv_has ls 3 [(0, .ref (q 3)), (1, .int (nI g)), (2, .int cl)] := hl
  refine lv_iload_n hx hb dX0_indexFor_0 rfl (lv_at hl 2 rfl) ?_
  by_cases h0 : cl = 0
  · subst h0
    refine lv_lookup (tgt := 28) (off := 27) hx hb dX0_indexFor_1 (by decide) (by decide) (by decide) ?_
    refine lv_aload_n hx hb dX0_indexFor_28 rfl (lv_at hl 0 rfl) ?_
    refine va_get (D := (dC, dI)) (ci := 0) (v := .ref (q 5)) (C := RX0) (T := TX0) (N := 5) hx hb hts (by decide +kernel) hown hK hP 0 rfl rfl 1 (by decide) (hts (.fieldLink RX0 15 "AchromatDesk$Catalogue" "indicesF" "[I") (by decide +kernel)) (fun _ h9 => h9) rfl dX0_indexFor_29 ?_
    refine lv_iload_n hx hb dX0_indexFor_32 rfl (lv_at hl 1 rfl) ?_
    refine ar_iald hx hb hK hP 2 0 rfl rfl g rfl (by omega) (by omega) dX0_indexFor_33 ?_
    refine lv_i2l (v := ((gF G) g).toInt64) hx hb dX0_indexFor_34 rfl ?_
    exact W.lret hx hb hr (fun t ht hW => ⟨_, rfl, rfl, ht⟩) (fun _ h => absurd h List.not_mem_nil) dX0_indexFor_35
  · by_cases h1 : cl = 1
    · subst h1
      refine lv_lookup (tgt := 36) (off := 35) hx hb dX0_indexFor_1 (by decide) (by decide) (by decide) ?_
      refine lv_aload_n hx hb dX0_indexFor_36 rfl (lv_at hl 0 rfl) ?_
      refine va_get (D := (dC, dI)) (ci := 0) (v := .ref (q 6)) (C := RX0) (T := TX0) (N := 5) hx hb hts (by decide +kernel) hown hK hP 0 rfl rfl 2 (by decide) (hts (.fieldLink RX0 19 "AchromatDesk$Catalogue" "indicesD" "[I") (by decide +kernel)) (fun _ h9 => h9) rfl dX0_indexFor_37 ?_
      refine lv_iload_n hx hb dX0_indexFor_40 rfl (lv_at hl 1 rfl) ?_
      refine ar_iald hx hb hK hP 3 0 rfl rfl g rfl (by omega) (by omega) dX0_indexFor_41 ?_
      refine lv_i2l (v := ((gD G) g).toInt64) hx hb dX0_indexFor_42 rfl ?_
      exact W.lret hx hb hr (fun t ht hW => ⟨_, rfl, rfl, ht⟩) (fun _ h => absurd h List.not_mem_nil) dX0_indexFor_43
    · refine lv_lookup (tgt := 44) (off := 43) hx hb dX0_indexFor_1 (by decide) (by show Op.lookupswitch.offset [(0, 27), (1, 35)] 43 cl.toInt = 43; rw [lv_osw h0 (by decide), lv_osw h1 (by decide)]; rfl) (by decide) ?_
      refine lv_aload_n hx hb dX0_indexFor_44 rfl (lv_at hl 0 rfl) ?_
      refine va_get (D := (dC, dI)) (ci := 0) (v := .ref (q 7)) (C := RX0) (T := TX0) (N := 5) hx hb hts (by decide +kernel) hown hK hP 0 rfl rfl 3 (by decide) (hts (.fieldLink RX0 22 "AchromatDesk$Catalogue" "indicesC" "[I") (by decide +kernel)) (fun _ h9 => h9) rfl dX0_indexFor_45 ?_
      refine lv_iload_n hx hb dX0_indexFor_48 rfl (lv_at hl 1 rfl) ?_
      refine ar_iald hx hb hK hP 4 0 rfl rfl g rfl (by omega) (by omega) dX0_indexFor_49 ?_
      refine lv_i2l (v := ((gC G) g).toInt64) hx hb dX0_indexFor_50 rfl ?_
      exact W.lret hx hb hr (fun t ht hW => ⟨_, rfl, by rw [vN, if_neg h0, if_neg h1], ht⟩) (fun _ h => absurd h List.not_mem_nil) dX0_indexFor_51

set_option maxHeartbeats 4000000 in
set_option maxRecDepth 100000 in
theorem c_X0_namesBefore (l : Launch) (dC : Nat → ClassId) (dI : Nat → Nat → Nat) (cI cJ : ClassId) (q : Nat → Nat) (G : GL) (n : Nat) (hn : n ≤ 20) (g : Nat) (hg : g < n) : Met l yX0_namesBefore wsX0_namesBefore ({ frames := 0, cells := 0, slots := 0, locals := 0 }) (va_Pc [.ref (q 3), .int (nI g)] (RO (dC, dI) (tyK cI cJ) ([(q 3, .inr (0, [.ref (q 4), .ref (q 5), .ref (q 6), .ref (q 7), .int (nI n)])), (q 4, .inl (cJ, 20, .inr (.inl (gK G)))), (q 5, .inl (cI, 20, .inl (gF G))), (q 6, .inl (cI, 20, .inl (gD G))), (q 7, .inl (cI, 20, .inl (gC G)))]))) (vp_Si (fun r => r = nI (nBef (gK G) g n))) 0 0 (fun _ => False) := by
  refine Met.ofW (cc := cX0_namesBefore) (maxL := 4) (ret := (some .int)) (by decide) rfl ?_
  intro p e s m args below meth c s₁ B hml hv
  obtain ⟨rfl, hP, hK, hN⟩ := hv
  have hx := B.exec
  have hb := B.bytes
  have hr := B.returns
  have hts := atoms_spec (ws := wsX0_namesBefore) B.pre
  have hown : s.vm.findClass RX0 = some m.cls := findClass_of_methodNamed B.named
  have hlocks := B.notSynchronized
  have hP : va_P (dC, dI) vwCl [(q 3, .inr (0, [.ref (q 4), .ref (q 5), .ref (q 6), .ref (q 7), .int (nI n)])), (q 4, .inl (cJ, 20, .inr (.inl (gK G)))), (q 5, .inl (cI, 20, .inl (gF G))), (q 6, .inl (cI, 20, .inl (gD G))), (q 7, .inl (cI, 20, .inl (gC G)))] s.heap := hP
  have hl := lv_entry ([.ref (q 3), .int (nI g)]) (n := 4) (Nat.le_of_ble_eq_true rfl)
  rw [lg_entry_eq]
  generalize (lg_sl ([.ref (q 3), .int (nI g)]) ++ List.replicate (4 - (lg_sl ([.ref (q 3), .int (nI g)])).length) Slot.unset).toArray = ls at hl ⊢
  have hl : lv_has ls 4 [(0, .ref (q 3)), (1, .int (nI g))] := hl
  refine lv_iconst (v := 0) hx hb dX0_namesBefore_0 (by decide) ?_
  refine lv_istore_n (lv' := [(2, .int 0), (0, .ref (q 3)), (1, .int (nI g))]) hx hb dX0_namesBefore_1 rfl hl (by decide) rfl (fun ls hl => ?_)
  refine lv_iconst (v := 0) hx hb dX0_namesBefore_2 (by decide) ?_
  refine lv_istore_n (lv' := [(3, .int 0), (2, .int 0), (0, .ref (q 3)), (1, .int (nI g))]) hx hb dX0_namesBefore_3 rfl hl (by decide) rfl (fun ls hl => ?_)
  refine rloopZ (nL := 4) 0 n (fun k z => if gK G k < gK G g then z + 1 else z) 0 (fun k4 z4 => [(3, .int (nI k4)), (2, .int (nI z4)), (0, .ref (q 3)), (1, .int (nI g))]) (fun _ _ => True) (by omega) (trivial) (lv_sub hl [0, 1, 2, 3] rfl) (fun k4 z4 hlo4 hk4 hz4 hI4 ls hl ih4 => ?_) (fun z4 hz4 hI4 ls hl => ?_)
  · refine lv_iload_n hx hb dX0_namesBefore_4 rfl (lv_at hl 0 rfl) ?_
    refine lv_aload_n hx hb dX0_namesBefore_5 rfl (lv_at hl 2 rfl) ?_
    refine va_get (D := (dC, dI)) (ci := 0) (v := .int (nI n)) (C := RX0) (T := TX0) (N := 5) hx hb hts (by decide +kernel) hown hK hP 0 rfl rfl 4 (by decide) (hts (.fieldLink RX0 25 "AchromatDesk$Catalogue" "count" "I") (by decide +kernel)) (fun _ h9 => h9) rfl dX0_namesBefore_6 ?_
    refine rn_ge (tgt := 37) hx hb k4 n rfl rfl (by omega) (by omega) dX0_namesBefore_9 (by decide) (fun h9 => ?_) (fun h9 => ?_)
    · exfalso; omega
    · refine lv_aload_n hx hb dX0_namesBefore_12 rfl (lv_at hl 2 rfl) ?_
      refine va_get (D := (dC, dI)) (ci := 0) (v := .ref (q 4)) (C := RX0) (T := TX0) (N := 5) hx hb hts (by decide +kernel) hown hK hP 0 rfl rfl 0 (by decide) (hts (.fieldLink RX0 9 "AchromatDesk$Catalogue" "nameKeys" "[J") (by decide +kernel)) (fun _ h9 => h9) rfl dX0_namesBefore_13 ?_
      refine lv_iload_n hx hb dX0_namesBefore_16 rfl (lv_at hl 0 rfl) ?_
      refine ar_lald hx hb hK hP 1 1 rfl rfl k4 rfl (by omega) (by omega) dX0_namesBefore_17 ?_
      refine lv_aload_n hx hb dX0_namesBefore_18 rfl (lv_at hl 2 rfl) ?_
      refine va_get (D := (dC, dI)) (ci := 0) (v := .ref (q 4)) (C := RX0) (T := TX0) (N := 5) hx hb hts (by decide +kernel) hown hK hP 0 rfl rfl 0 (by decide) (hts (.fieldLink RX0 9 "AchromatDesk$Catalogue" "nameKeys" "[J") (by decide +kernel)) (fun _ h9 => h9) rfl dX0_namesBefore_19 ?_
      refine lv_iload_n hx hb dX0_namesBefore_22 rfl (lv_at hl 3 rfl) ?_
      refine ar_lald hx hb hK hP 1 1 rfl rfl g rfl (by omega) (by omega) dX0_namesBefore_23 ?_
      refine rl_ifge (tgt := 31) hx hb dX0_namesBefore_24 dX0_namesBefore_25 (by decide) (fun h24 => ?_) (fun h24 => ?_)
      · refine lv_iinc (v := nI (k4 + 1)) (lv' := [(3, .int (nI (k4 + 1))), (2, .int (nI z4)), (0, .ref (q 3)), (1, .int (nI g))]) hx hb dX0_namesBefore_31 hl (k := 0) rfl (by first | rfl | exact nI_add _ _) (by decide) rfl (fun ls hl => ?_)
        refine lv_goto (tgt := 4) hx hb dX0_namesBefore_34 (by decide) ?_
        exact ih4 z4 ((if_neg h24).symm) (trivial) ls (lv_sub hl [0, 1, 2, 3] rfl)
      · refine lv_iinc (v := nI (z4 + 1)) (lv' := [(2, .int (nI (z4 + 1))), (3, .int (nI k4)), (0, .ref (q 3)), (1, .int (nI g))]) hx hb dX0_namesBefore_28 hl (k := 1) rfl (by first | rfl | exact nI_add _ _) (by decide) rfl (fun ls hl => ?_)
        refine lv_iinc (v := nI (k4 + 1)) (lv' := [(3, .int (nI (k4 + 1))), (2, .int (nI (z4 + 1))), (0, .ref (q 3)), (1, .int (nI g))]) hx hb dX0_namesBefore_31 hl (k := 1) rfl (by first | rfl | exact nI_add _ _) (by decide) rfl (fun ls hl => ?_)
        refine lv_goto (tgt := 4) hx hb dX0_namesBefore_34 (by decide) ?_
        exact ih4 (z4 + 1) ((if_pos h24).symm) (trivial) ls (lv_sub hl [0, 1, 2, 3] rfl)
  · refine lv_iload_n hx hb dX0_namesBefore_4 rfl (lv_at hl 0 rfl) ?_
    refine lv_aload_n hx hb dX0_namesBefore_5 rfl (lv_at hl 2 rfl) ?_
    refine va_get (D := (dC, dI)) (ci := 0) (v := .int (nI n)) (C := RX0) (T := TX0) (N := 5) hx hb hts (by decide +kernel) hown hK hP 0 rfl rfl 4 (by decide) (hts (.fieldLink RX0 25 "AchromatDesk$Catalogue" "count" "I") (by decide +kernel)) (fun _ h9 => h9) rfl dX0_namesBefore_6 ?_
    refine rn_ge (tgt := 37) hx hb n n rfl rfl (by omega) (by omega) dX0_namesBefore_9 (by decide) (fun h9 => ?_) (fun h9 => ?_)
    · refine lv_iload_n hx hb dX0_namesBefore_37 rfl (lv_at hl 1 rfl) ?_
      exact W.iret hx hb hr (fun t ht hW => ⟨_, rfl, by rw [hz4]; rfl, ht⟩) (fun _ h => absurd h List.not_mem_nil) dX0_namesBefore_38
    · exfalso; omega

set_option maxHeartbeats 4000000 in
set_option maxRecDepth 100000 in
theorem c_X0_leastAbbeFrom (l : Launch) (dC : Nat → ClassId) (dI : Nat → Nat → Nat) (cI cJ : ClassId) (q : Nat → Nat) (G : GL) (n : Nat) (hn : n ≤ 20) (b : Int32) : Met l yX0_leastAbbeFrom wsX0_leastAbbeFrom ({ frames := 3, cells := 0, slots := 0, locals := 69 }) (va_Pc [.ref (q 3), .int b] (RO (dC, dI) (tyK cI cJ) ([(q 3, .inr (0, [.ref (q 4), .ref (q 5), .ref (q 6), .ref (q 7), .int (nI n)])), (q 4, .inl (cJ, 20, .inr (.inl (gK G)))), (q 5, .inl (cI, 20, .inl (gF G))), (q 6, .inl (cI, 20, .inl (gD G))), (q 7, .inl (cI, 20, .inl (gC G)))]))) (vp_Si (fun r => r = (lAbb G b.toInt64 n).1)) 0 0 (fun _ => False) := by
  refine Met.ofW (cc := cX0_leastAbbeFrom) (maxL := 8) (ret := (some .int)) (by decide) rfl ?_
  intro p e s m args below meth c s₁ B hml hv
  obtain ⟨rfl, hP, hK, hN⟩ := hv
  have hx := B.exec
  have hb := B.bytes
  have hr := B.returns
  have hts := atoms_spec (ws := wsX0_leastAbbeFrom) B.pre
  have hown : s.vm.findClass RX0 = some m.cls := findClass_of_methodNamed B.named
  have hlocks := B.notSynchronized
  have hP : va_P (dC, dI) vwCl [(q 3, .inr (0, [.ref (q 4), .ref (q 5), .ref (q 6), .ref (q 7), .int (nI n)])), (q 4, .inl (cJ, 20, .inr (.inl (gK G)))), (q 5, .inl (cI, 20, .inl (gF G))), (q 6, .inl (cI, 20, .inl (gD G))), (q 7, .inl (cI, 20, .inl (gC G)))] s.heap := hP
  have hl := lv_entry ([.ref (q 3), .int b]) (n := 8) (Nat.le_of_ble_eq_true rfl)
  rw [lg_entry_eq]
  generalize (lg_sl ([.ref (q 3), .int b]) ++ List.replicate (8 - (lg_sl ([.ref (q 3), .int b])).length) Slot.unset).toArray = ls at hl ⊢
  have hl : lv_has ls 8 [(0, .ref (q 3)), (1, .int b)] := hl
  refine lv_iconst (v := (-1)) hx hb dX0_leastAbbeFrom_0 (by decide) ?_
  refine lv_istore_n (lv' := [(2, .int (-1)), (0, .ref (q 3)), (1, .int b)]) hx hb dX0_leastAbbeFrom_1 rfl hl (by decide) rfl (fun ls hl => ?_)
  refine lv_lconst (v := 0) hx hb dX0_leastAbbeFrom_2 (by decide) ?_
  refine lv_lstore_n (lv' := [(3, .long 0), (2, .int (-1)), (0, .ref (q 3)), (1, .int b)]) hx hb dX0_leastAbbeFrom_3 rfl hl (by decide) rfl (fun ls hl => ?_)
  refine lv_iconst (v := 0) hx hb dX0_leastAbbeFrom_4 (by decide) ?_
  refine lv_istore (lv' := [(5, .int 0), (3, .long 0), (2, .int (-1)), (0, .ref (q 3)), (1, .int b)]) hx hb dX0_leastAbbeFrom_5 hl (by decide) rfl (fun ls hl => ?_)
  refine rloopZ (nL := 8) 0 n (fun k z => if b.toInt64 ≤ vAbb G k ∧ (z.1 < 0 ∨ vAbb G k < z.2) then (nI k, vAbb G k) else z) (-1, 0) (fun k7 z7 => [(5, .int (nI k7)), (3, .long z7.2), (2, .int z7.1), (0, .ref (q 3)), (1, .int b)]) (fun _ _ => True) (by omega) (trivial) (lv_sub hl [0, 1, 2, 3, 4] rfl) (fun k7 z7 hlo7 hk7 hz7 hI7 ls hl ih7 => ?_) (fun z7 hz7 hI7 ls hl => ?_)
  · refine lv_iload hx hb dX0_leastAbbeFrom_7 (lv_at hl 0 rfl) ?_
    refine lv_aload_n hx hb dX0_leastAbbeFrom_9 rfl (lv_at hl 3 rfl) ?_
    refine va_get (D := (dC, dI)) (ci := 0) (v := .int (nI n)) (C := RX0) (T := TX0) (N := 5) hx hb hts (by decide +kernel) hown hK hP 0 rfl rfl 4 (by decide) (hts (.fieldLink RX0 25 "AchromatDesk$Catalogue" "count" "I") (by decide +kernel)) (fun _ h9 => h9) rfl dX0_leastAbbeFrom_10 ?_
    refine rn_ge (tgt := 55) hx hb k7 n rfl rfl (by omega) (by omega) dX0_leastAbbeFrom_13 (by decide) (fun h13 => ?_) (fun h13 => ?_)
    · exfalso; omega
    · refine lv_aload_n hx hb dX0_leastAbbeFrom_16 rfl (lv_at hl 3 rfl) ?_
      refine lv_iload hx hb dX0_leastAbbeFrom_17 (lv_at hl 0 rfl) ?_
      refine roVl (As := [.int (nI k7)]) (rest := []) (c_X0_abbeNumber l dC dI cI cJ q G n hn k7 (by omega)) ⟨hx, hb, hml, hown, hts⟩ (cwV 1 hts gX0_leastAbbeFrom_X0_abbeNumber rfl rfl rfl (by decide +kernel) ⟨Nat.le_of_ble_eq_true rfl, Nat.le_of_ble_eq_true rfl⟩) (hP.sub [0, 1, 2, 3, 4] rfl) hK hN (ci := 0) rfl rfl rfl hl.1 rfl (Nat.le_of_ble_eq_true rfl) dX0_leastAbbeFrom_19 ⟨Nat.zero_le _, Nat.zero_le _⟩ (fun r hr0 => ?_)
      subst hr0
      refine lv_lstore (lv' := [(6, .long (vAbb G k7)), (5, .int (nI k7)), (3, .long z7.2), (2, .int z7.1), (0, .ref (q 3)), (1, .int b)]) hx hb dX0_leastAbbeFrom_22 hl (by decide) rfl (fun ls hl => ?_)
      refine lv_lload hx hb dX0_leastAbbeFrom_24 (lv_at hl 0 rfl) ?_
      refine lv_iload_n hx hb dX0_leastAbbeFrom_26 rfl (lv_at hl 5 rfl) ?_
      refine lv_i2l (v := b.toInt64) hx hb dX0_leastAbbeFrom_27 rfl ?_
      refine rl_iflt (tgt := 49) hx hb dX0_leastAbbeFrom_28 dX0_leastAbbeFrom_29 (by decide) (fun h28 => ?_) (fun h28 => ?_)
      · refine lv_iinc (v := nI (k7 + 1)) (lv' := [(5, .int (nI (k7 + 1))), (6, .long (vAbb G k7)), (3, .long z7.2), (2, .int z7.1), (0, .ref (q 3)), (1, .int b)]) hx hb dX0_leastAbbeFrom_49 hl (k := 1) rfl (by first | rfl | exact nI_add _ _) (by decide) rfl (fun ls hl => ?_)
        refine lv_goto (tgt := 7) hx hb dX0_leastAbbeFrom_52 (by decide) ?_
        exact ih7 z7 ((if_neg (fun w => absurd w.1 (Int64.not_le.mpr h28))).symm) (trivial) ls (lv_sub hl [0, 2, 3, 4, 5] rfl)
      · refine lv_iload_n hx hb dX0_leastAbbeFrom_32 rfl (lv_at hl 3 rfl) ?_
        refine lv_if_lt (tgt := 43) hx hb dX0_leastAbbeFrom_33 (by decide) (fun h33 => ?_) (fun h33 => ?_)
        · refine lv_iload hx hb dX0_leastAbbeFrom_43 (lv_at hl 1 rfl) ?_
          refine lv_istore_n (lv' := [(2, .int (nI k7)), (6, .long (vAbb G k7)), (5, .int (nI k7)), (3, .long z7.2), (0, .ref (q 3)), (1, .int b)]) hx hb dX0_leastAbbeFrom_45 rfl hl (by decide) rfl (fun ls hl => ?_)
          refine lv_lload hx hb dX0_leastAbbeFrom_46 (lv_at hl 1 rfl) ?_
          refine lv_lstore_n (lv' := [(3, .long (vAbb G k7)), (2, .int (nI k7)), (6, .long (vAbb G k7)), (5, .int (nI k7)), (0, .ref (q 3)), (1, .int b)]) hx hb dX0_leastAbbeFrom_48 rfl hl (by decide) rfl (fun ls hl => ?_)
          refine lv_iinc (v := nI (k7 + 1)) (lv' := [(5, .int (nI (k7 + 1))), (3, .long (vAbb G k7)), (2, .int (nI k7)), (6, .long (vAbb G k7)), (0, .ref (q 3)), (1, .int b)]) hx hb dX0_leastAbbeFrom_49 hl (k := 3) rfl (by first | rfl | exact nI_add _ _) (by decide) rfl (fun ls hl => ?_)
          refine lv_goto (tgt := 7) hx hb dX0_leastAbbeFrom_52 (by decide) ?_
          exact ih7 (nI k7, vAbb G k7) ((if_pos ⟨Int64.not_lt.mp h28, Or.inl h33⟩).symm) (trivial) ls (lv_sub hl [0, 1, 2, 4, 5] rfl)
        · refine lv_lload hx hb dX0_leastAbbeFrom_36 (lv_at hl 0 rfl) ?_
          refine lv_lload_n hx hb dX0_leastAbbeFrom_38 rfl (lv_at hl 2 rfl) ?_
          refine rl_ifge (tgt := 49) hx hb dX0_leastAbbeFrom_39 dX0_leastAbbeFrom_40 (by decide) (fun h39 => ?_) (fun h39 => ?_)
          · refine lv_iinc (v := nI (k7 + 1)) (lv' := [(5, .int (nI (k7 + 1))), (6, .long (vAbb G k7)), (3, .long z7.2), (2, .int z7.1), (0, .ref (q 3)), (1, .int b)]) hx hb dX0_leastAbbeFrom_49 hl (k := 1) rfl (by first | rfl | exact nI_add _ _) (by decide) rfl (fun ls hl => ?_)
            refine lv_goto (tgt := 7) hx hb dX0_leastAbbeFrom_52 (by decide) ?_
            exact ih7 z7 ((if_neg (fun w => w.2.elim h33 h39)).symm) (trivial) ls (lv_sub hl [0, 2, 3, 4, 5] rfl)
          · refine lv_iload hx hb dX0_leastAbbeFrom_43 (lv_at hl 1 rfl) ?_
            refine lv_istore_n (lv' := [(2, .int (nI k7)), (6, .long (vAbb G k7)), (5, .int (nI k7)), (3, .long z7.2), (0, .ref (q 3)), (1, .int b)]) hx hb dX0_leastAbbeFrom_45 rfl hl (by decide) rfl (fun ls hl => ?_)
            refine lv_lload hx hb dX0_leastAbbeFrom_46 (lv_at hl 1 rfl) ?_
            refine lv_lstore_n (lv' := [(3, .long (vAbb G k7)), (2, .int (nI k7)), (6, .long (vAbb G k7)), (5, .int (nI k7)), (0, .ref (q 3)), (1, .int b)]) hx hb dX0_leastAbbeFrom_48 rfl hl (by decide) rfl (fun ls hl => ?_)
            refine lv_iinc (v := nI (k7 + 1)) (lv' := [(5, .int (nI (k7 + 1))), (3, .long (vAbb G k7)), (2, .int (nI k7)), (6, .long (vAbb G k7)), (0, .ref (q 3)), (1, .int b)]) hx hb dX0_leastAbbeFrom_49 hl (k := 3) rfl (by first | rfl | exact nI_add _ _) (by decide) rfl (fun ls hl => ?_)
            refine lv_goto (tgt := 7) hx hb dX0_leastAbbeFrom_52 (by decide) ?_
            exact ih7 (nI k7, vAbb G k7) ((if_pos ⟨Int64.not_lt.mp h28, Or.inr h39⟩).symm) (trivial) ls (lv_sub hl [0, 1, 2, 4, 5] rfl)
  · refine lv_iload hx hb dX0_leastAbbeFrom_7 (lv_at hl 0 rfl) ?_
    refine lv_aload_n hx hb dX0_leastAbbeFrom_9 rfl (lv_at hl 3 rfl) ?_
    refine va_get (D := (dC, dI)) (ci := 0) (v := .int (nI n)) (C := RX0) (T := TX0) (N := 5) hx hb hts (by decide +kernel) hown hK hP 0 rfl rfl 4 (by decide) (hts (.fieldLink RX0 25 "AchromatDesk$Catalogue" "count" "I") (by decide +kernel)) (fun _ h9 => h9) rfl dX0_leastAbbeFrom_10 ?_
    refine rn_ge (tgt := 55) hx hb n n rfl rfl (by omega) (by omega) dX0_leastAbbeFrom_13 (by decide) (fun h13 => ?_) (fun h13 => ?_)
    · refine lv_iload_n hx hb dX0_leastAbbeFrom_55 rfl (lv_at hl 2 rfl) ?_
      exact W.iret hx hb hr (fun t ht hW => ⟨_, rfl, by rw [hz7]; rfl, ht⟩) (fun _ h => absurd h List.not_mem_nil) dX0_leastAbbeFrom_56
    · exfalso; omega
