set_option maxHeartbeats 4000000 in
set_option maxRecDepth 100000 in
theorem c_X3_has (l : Launch) (dC : Nat → ClassId) (dI : Nat → Nat → Nat) (cI cJ : ClassId) (q : Nat → Nat) (lg lp : Nat → Int32) (k : Nat) (hk : k ≤ 8) (x : Int32) : Met l yX3_has wsX3_has ({ frames := 0, cells := 0, slots := 0, locals := 0 }) (va_Pc [.ref (q 14), .int x] (RO (dC, dI) (tyK cI cJ) ([(q 14, .inr (3, [.ref (q 15), .ref (q 16), .int (nI k)])), (q 15, .inl (cI, 8, .inl lg)), (q 16, .inl (cI, 8, .inl lp))]))) (vp_Si (fun r => r = if hasP x k then 1 else 0)) 0 0 (fun _ => False) := by
  refine Met.ofW (cc := cX3_has) (maxL := 2) (ret := (some .boolean)) (by decide) rfl ?_
  intro p e s m args below meth c s₁ B hml hv
  obtain ⟨rfl, hP, hK, hN⟩ := hv
  have hx := B.exec
  have hb := B.bytes
  have hr := B.returns
  have hts := atoms_spec (ws := wsX3_has) B.pre
  have hown : s.vm.findClass RX3 = some m.cls := findClass_of_methodNamed B.named
  have hlocks := B.notSynchronized
  have hP : va_P (dC, dI) vwCl [(q 14, .inr (3, [.ref (q 15), .ref (q 16), .int (nI k)])), (q 15, .inl (cI, 8, .inl lg)), (q 16, .inl (cI, 8, .inl lp))] s.heap := hP
  have hl := lv_entry ([.ref (q 14), .int x]) (n := 2) (Nat.le_of_ble_eq_true rfl)
  rw [lg_entry_eq]
  generalize (lg_sl ([.ref (q 14), .int x]) ++ List.replicate (2 - (lg_sl ([.ref (q 14), .int x])).length) Slot.unset).toArray = ls at hl ⊢
  have hl : lv_has ls 2 [(0, .ref (q 14)), (1, .int x)] := hl
  refine lv_iload_n hx hb dX3_has_0 rfl (lv_at hl 1 rfl) ?_
  refine lv_if_lt (tgt := 16) hx hb dX3_has_1 (by decide) (fun h1 => ?_) (fun h1 => ?_)
  · refine lv_iconst (v := 0) hx hb dX3_has_16 (by decide) ?_
    exact W.zret hx hb hr (by decide) (fun t ht hW => ⟨_, rfl, (if_neg (fun z => absurd z.1 (Int32.not_le.mpr h1))).symm, ht⟩) (fun _ h => absurd h List.not_mem_nil) dX3_has_17
  · refine lv_iload_n hx hb dX3_has_4 rfl (lv_at hl 1 rfl) ?_
    refine lv_aload_n hx hb dX3_has_5 rfl (lv_at hl 0 rfl) ?_
    refine va_get (D := (dC, dI)) (ci := 3) (v := .int (nI k)) (C := RX3) (T := TX3) (N := 3) hx hb hts (by decide +kernel) hown hK hP 0 rfl rfl 2 (by decide) (hts (.fieldLink RX3 18 "AchromatDesk$LensSystem" "count" "I") (by decide +kernel)) (fun _ h9 => h9) rfl dX3_has_6 ?_
    refine lv_icmp_ge (tgt := 16) hx hb dX3_has_9 (by decide) (fun h9 => ?_) (fun h9 => ?_)
    · refine lv_iconst (v := 0) hx hb dX3_has_16 (by decide) ?_
      exact W.zret hx hb hr (by decide) (fun t ht hW => ⟨_, rfl, (if_neg (fun z => absurd z.2 (Int32.not_lt.mpr h9))).symm, ht⟩) (fun _ h => absurd h List.not_mem_nil) dX3_has_17
    · refine lv_iconst (v := 1) hx hb dX3_has_12 (by decide) ?_
      refine lv_goto (tgt := 17) hx hb dX3_has_13 (by decide) ?_
      exact W.zret hx hb hr (by decide) (fun t ht hW => ⟨_, rfl, (if_pos ⟨Int32.not_lt.mp h1, Int32.not_le.mp h9⟩).symm, ht⟩) (fun _ h => absurd h List.not_mem_nil) dX3_has_17

set_option maxHeartbeats 4000000 in
set_option maxRecDepth 100000 in
theorem c_X3_uses (l : Launch) (dC : Nat → ClassId) (dI : Nat → Nat → Nat) (cI cJ : ClassId) (q : Nat → Nat) (lg lp : Nat → Int32) (k : Nat) (hk : k ≤ 8) (y : Int32) : Met l yX3_uses wsX3_uses ({ frames := 0, cells := 0, slots := 0, locals := 0 }) (va_Pc [.ref (q 14), .int y] (RO (dC, dI) (tyK cI cJ) ([(q 14, .inr (3, [.ref (q 15), .ref (q 16), .int (nI k)])), (q 15, .inl (cI, 8, .inl lg)), (q 16, .inl (cI, 8, .inl lp))]))) (vp_Si (fun r => r = if (∃ g, g < k ∧ lg g = y) then 1 else 0)) 0 0 (fun _ => False) := by
  refine Met.ofW (cc := cX3_uses) (maxL := 3) (ret := (some .boolean)) (by decide) rfl ?_
  intro p e s m args below meth c s₁ B hml hv
  obtain ⟨rfl, hP, hK, hN⟩ := hv
  have hx := B.exec
  have hb := B.bytes
  have hr := B.returns
  have hts := atoms_spec (ws := wsX3_uses) B.pre
  have hown : s.vm.findClass RX3 = some m.cls := findClass_of_methodNamed B.named
  have hlocks := B.notSynchronized
  have hP : va_P (dC, dI) vwCl [(q 14, .inr (3, [.ref (q 15), .ref (q 16), .int (nI k)])), (q 15, .inl (cI, 8, .inl lg)), (q 16, .inl (cI, 8, .inl lp))] s.heap := hP
  have hl := lv_entry ([.ref (q 14), .int y]) (n := 3) (Nat.le_of_ble_eq_true rfl)
  rw [lg_entry_eq]
  generalize (lg_sl ([.ref (q 14), .int y]) ++ List.replicate (3 - (lg_sl ([.ref (q 14), .int y])).length) Slot.unset).toArray = ls at hl ⊢
  have hl : lv_has ls 3 [(0, .ref (q 14)), (1, .int y)] := hl
  refine lv_iconst (v := 0) hx hb dX3_uses_0 (by decide) ?_
  refine lv_istore_n (lv' := [(2, .int 0), (0, .ref (q 14)), (1, .int y)]) hx hb dX3_uses_1 rfl hl (by decide) rfl (fun ls hl => ?_)
  refine rloopZ (nL := 3) 0 k (fun _ z => z) () (fun k2 z2 => [(2, .int (nI k2)), (0, .ref (q 14)), (1, .int y)]) (fun k _ => ∀ g, g < k → ¬ lg g = y) (by omega) (fun g h => absurd h (Nat.not_lt_zero g)) (lv_sub hl [0, 1, 2] rfl) (fun k2 z2 hlo2 hk2 hz2 hI2 ls hl ih2 => ?_) (fun z2 hz2 hI2 ls hl => ?_)
  · refine lv_iload_n hx hb dX3_uses_2 rfl (lv_at hl 0 rfl) ?_
    refine lv_aload_n hx hb dX3_uses_3 rfl (lv_at hl 1 rfl) ?_
    refine va_get (D := (dC, dI)) (ci := 3) (v := .int (nI k)) (C := RX3) (T := TX3) (N := 3) hx hb hts (by decide +kernel) hown hK hP 0 rfl rfl 2 (by decide) (hts (.fieldLink RX3 18 "AchromatDesk$LensSystem" "count" "I") (by decide +kernel)) (fun _ h9 => h9) rfl dX3_uses_4 ?_
    refine rn_ge (tgt := 28) hx hb k2 k rfl rfl (by omega) (by omega) dX3_uses_7 (by decide) (fun h7 => ?_) (fun h7 => ?_)
    · exfalso; omega
    · refine lv_aload_n hx hb dX3_uses_10 rfl (lv_at hl 1 rfl) ?_
      refine va_get (D := (dC, dI)) (ci := 3) (v := .ref (q 15)) (C := RX3) (T := TX3) (N := 3) hx hb hts (by decide +kernel) hown hK hP 0 rfl rfl 0 (by decide) (hts (.fieldLink RX3 9 "AchromatDesk$LensSystem" "glassNumbers" "[I") (by decide +kernel)) (fun _ h9 => h9) rfl dX3_uses_11 ?_
      refine lv_iload_n hx hb dX3_uses_14 rfl (lv_at hl 0 rfl) ?_
      refine ar_iald hx hb hK hP 1 0 rfl rfl k2 rfl (by omega) (by omega) dX3_uses_15 ?_
      refine lv_iload_n hx hb dX3_uses_16 rfl (lv_at hl 2 rfl) ?_
      refine lv_icmp_ne (tgt := 22) hx hb dX3_uses_17 (by decide) (fun h17 => ?_) (fun h17 => ?_)
      · refine lv_iinc (v := nI (k2 + 1)) (lv' := [(2, .int (nI (k2 + 1))), (0, .ref (q 14)), (1, .int y)]) hx hb dX3_uses_22 hl (k := 0) rfl (by first | rfl | exact nI_add _ _) (by decide) rfl (fun ls hl => ?_)
        refine lv_goto (tgt := 2) hx hb dX3_uses_25 (by decide) ?_
        exact ih2 () (rfl) (fun g h => (Nat.lt_succ_iff_lt_or_eq.mp h).elim (hI2 g) (fun e => e ▸ h17)) ls (lv_sub hl [0, 1, 2] rfl)
      · refine lv_iconst (v := 1) hx hb dX3_uses_20 (by decide) ?_
        exact W.zret hx hb hr (by decide) (fun t ht hW => ⟨_, rfl, (if_pos ⟨k2, hk2, h17⟩).symm, ht⟩) (fun _ h => absurd h List.not_mem_nil) dX3_uses_21
  · refine lv_iload_n hx hb dX3_uses_2 rfl (lv_at hl 0 rfl) ?_
    refine lv_aload_n hx hb dX3_uses_3 rfl (lv_at hl 1 rfl) ?_
    refine va_get (D := (dC, dI)) (ci := 3) (v := .int (nI k)) (C := RX3) (T := TX3) (N := 3) hx hb hts (by decide +kernel) hown hK hP 0 rfl rfl 2 (by decide) (hts (.fieldLink RX3 18 "AchromatDesk$LensSystem" "count" "I") (by decide +kernel)) (fun _ h9 => h9) rfl dX3_uses_4 ?_
    refine rn_ge (tgt := 28) hx hb k k rfl rfl (by omega) (by omega) dX3_uses_7 (by decide) (fun h7 => ?_) (fun h7 => ?_)
    · refine lv_iconst (v := 0) hx hb dX3_uses_28 (by decide) ?_
      exact W.zret hx hb hr (by decide) (fun t ht hW => ⟨_, rfl, (if_neg (fun ⟨g, hg, hq⟩ => hI2 g hg hq)).symm, ht⟩) (fun _ h => absurd h List.not_mem_nil) dX3_uses_29
    · exfalso; omega

set_option maxHeartbeats 4000000 in
set_option maxRecDepth 100000 in
theorem c_X3_glassOf (l : Launch) (dC : Nat → ClassId) (dI : Nat → Nat → Nat) (cI cJ : ClassId) (q : Nat → Nat) (lg lp : Nat → Int32) (k : Nat) (hk : k ≤ 8) (j : Nat) (hj : j < k) : Met l yX3_glassOf wsX3_glassOf ({ frames := 0, cells := 0, slots := 0, locals := 0 }) (va_Pc [.ref (q 14), .int (nI j)] (RO (dC, dI) (tyK cI cJ) ([(q 14, .inr (3, [.ref (q 15), .ref (q 16), .int (nI k)])), (q 15, .inl (cI, 8, .inl lg)), (q 16, .inl (cI, 8, .inl lp))]))) (vp_Si (fun r => r = lg j)) 0 0 (fun _ => False) := by
  refine Met.ofW (cc := cX3_glassOf) (maxL := 2) (ret := (some .int)) (by decide) rfl ?_
  intro p e s m args below meth c s₁ B hml hv
  obtain ⟨rfl, hP, hK, hN⟩ := hv
  have hx := B.exec
  have hb := B.bytes
  have hr := B.returns
  have hts := atoms_spec (ws := wsX3_glassOf) B.pre
  have hown : s.vm.findClass RX3 = some m.cls := findClass_of_methodNamed B.named
  have hlocks := B.notSynchronized
  have hP : va_P (dC, dI) vwCl [(q 14, .inr (3, [.ref (q 15), .ref (q 16), .int (nI k)])), (q 15, .inl (cI, 8, .inl lg)), (q 16, .inl (cI, 8, .inl lp))] s.heap := hP
  have hl := lv_entry ([.ref (q 14), .int (nI j)]) (n := 2) (Nat.le_of_ble_eq_true rfl)
  rw [lg_entry_eq]
  generalize (lg_sl ([.ref (q 14), .int (nI j)]) ++ List.replicate (2 - (lg_sl ([.ref (q 14), .int (nI j)])).length) Slot.unset).toArray = ls at hl ⊢
  have hl : lv_has ls 2 [(0, .ref (q 14)), (1, .int (nI j))] := hl
  refine lv_aload_n hx hb dX3_glassOf_0 rfl (lv_at hl 0 rfl) ?_
  refine va_get (D := (dC, dI)) (ci := 3) (v := .ref (q 15)) (C := RX3) (T := TX3) (N := 3) hx hb hts (by decide +kernel) hown hK hP 0 rfl rfl 0 (by decide) (hts (.fieldLink RX3 9 "AchromatDesk$LensSystem" "glassNumbers" "[I") (by decide +kernel)) (fun _ h9 => h9) rfl dX3_glassOf_1 ?_
  refine lv_iload_n hx hb dX3_glassOf_4 rfl (lv_at hl 1 rfl) ?_
  refine ar_iald hx hb hK hP 1 0 rfl rfl j rfl (by omega) (by omega) dX3_glassOf_5 ?_
  exact W.iret hx hb hr (fun t ht hW => ⟨_, rfl, rfl, ht⟩) (fun _ h => absurd h List.not_mem_nil) dX3_glassOf_6

set_option maxHeartbeats 4000000 in
set_option maxRecDepth 100000 in
theorem c_X3_powerOf (l : Launch) (dC : Nat → ClassId) (dI : Nat → Nat → Nat) (cI cJ : ClassId) (q : Nat → Nat) (lg lp : Nat → Int32) (k : Nat) (hk : k ≤ 8) (j : Nat) (hj : j < k) : Met l yX3_powerOf wsX3_powerOf ({ frames := 0, cells := 0, slots := 0, locals := 0 }) (va_Pc [.ref (q 14), .int (nI j)] (RO (dC, dI) (tyK cI cJ) ([(q 14, .inr (3, [.ref (q 15), .ref (q 16), .int (nI k)])), (q 15, .inl (cI, 8, .inl lg)), (q 16, .inl (cI, 8, .inl lp))]))) (vp_Si (fun r => r = lp j)) 0 0 (fun _ => False) := by
  refine Met.ofW (cc := cX3_powerOf) (maxL := 2) (ret := (some .int)) (by decide) rfl ?_
  intro p e s m args below meth c s₁ B hml hv
  obtain ⟨rfl, hP, hK, hN⟩ := hv
  have hx := B.exec
  have hb := B.bytes
  have hr := B.returns
  have hts := atoms_spec (ws := wsX3_powerOf) B.pre
  have hown : s.vm.findClass RX3 = some m.cls := findClass_of_methodNamed B.named
  have hlocks := B.notSynchronized
  have hP : va_P (dC, dI) vwCl [(q 14, .inr (3, [.ref (q 15), .ref (q 16), .int (nI k)])), (q 15, .inl (cI, 8, .inl lg)), (q 16, .inl (cI, 8, .inl lp))] s.heap := hP
  have hl := lv_entry ([.ref (q 14), .int (nI j)]) (n := 2) (Nat.le_of_ble_eq_true rfl)
  rw [lg_entry_eq]
  generalize (lg_sl ([.ref (q 14), .int (nI j)]) ++ List.replicate (2 - (lg_sl ([.ref (q 14), .int (nI j)])).length) Slot.unset).toArray = ls at hl ⊢
  have hl : lv_has ls 2 [(0, .ref (q 14)), (1, .int (nI j))] := hl
  refine lv_aload_n hx hb dX3_powerOf_0 rfl (lv_at hl 0 rfl) ?_
  refine va_get (D := (dC, dI)) (ci := 3) (v := .ref (q 16)) (C := RX3) (T := TX3) (N := 3) hx hb hts (by decide +kernel) hown hK hP 0 rfl rfl 1 (by decide) (hts (.fieldLink RX3 15 "AchromatDesk$LensSystem" "powers" "[I") (by decide +kernel)) (fun _ h9 => h9) rfl dX3_powerOf_1 ?_
  refine lv_iload_n hx hb dX3_powerOf_4 rfl (lv_at hl 1 rfl) ?_
  refine ar_iald hx hb hK hP 2 0 rfl rfl j rfl (by omega) (by omega) dX3_powerOf_5 ?_
  exact W.iret hx hb hr (fun t ht hW => ⟨_, rfl, rfl, ht⟩) (fun _ h => absurd h List.not_mem_nil) dX3_powerOf_6

set_option maxHeartbeats 4000000 in
set_option maxRecDepth 100000 in
theorem c_X3_lensPower (l : Launch) (dC : Nat → ClassId) (dI : Nat → Nat → Nat) (cI cJ : ClassId) (q : Nat → Nat) (G : GL) (n : Nat) (hn : n ≤ 20) (lg lp : Nat → Int32) (k : Nat) (hk : k ≤ 8) (hL : lOK lg k n) (j : Nat) (hj : j < k) (g : Nat) (hg : g < n) (cl : Int32) : Met l yX3_lensPower wsX3_lensPower ({ frames := 2, cells := 0, slots := 0, locals := 48 }) (va_Pc [.ref (q 14), .int (nI j), .int (nI g), .int cl, .ref (q 3)] (RO (dC, dI) (tyK cI cJ) ([(q 14, .inr (3, [.ref (q 15), .ref (q 16), .int (nI k)])), (q 15, .inl (cI, 8, .inl lg)), (q 16, .inl (cI, 8, .inl lp)), (q 3, .inr (0, [.ref (q 4), .ref (q 5), .ref (q 6), .ref (q 7), .int (nI n)])), (q 4, .inl (cJ, 20, .inr (.inl (gK G)))), (q 5, .inl (cI, 20, .inl (gF G))), (q 6, .inl (cI, 20, .inl (gD G))), (q 7, .inl (cI, 20, .inl (gC G)))]))) (vp_Sl (fun r => r = vL G lg lp j g cl)) 0 0 (fun _ => False) := by
  refine Met.ofW (cc := cX3_lensPower) (maxL := 7) (ret := (some .long)) (by decide) rfl ?_
  intro p e s m args below meth c s₁ B hml hv
  obtain ⟨rfl, hP, hK, hN⟩ := hv
  have hx := B.exec
  have hb := B.bytes
  have hr := B.returns
  have hts := atoms_spec (ws := wsX3_lensPower) B.pre
  have hown : s.vm.findClass RX3 = some m.cls := findClass_of_methodNamed B.named
  have hlocks := B.notSynchronized
  have hP : va_P (dC, dI) vwCl [(q 14, .inr (3, [.ref (q 15), .ref (q 16), .int (nI k)])), (q 15, .inl (cI, 8, .inl lg)), (q 16, .inl (cI, 8, .inl lp)), (q 3, .inr (0, [.ref (q 4), .ref (q 5), .ref (q 6), .ref (q 7), .int (nI n)])), (q 4, .inl (cJ, 20, .inr (.inl (gK G)))), (q 5, .inl (cI, 20, .inl (gF G))), (q 6, .inl (cI, 20, .inl (gD G))), (q 7, .inl (cI, 20, .inl (gC G)))] s.heap := hP
  have hl := lv_entry ([.ref (q 14), .int (nI j), .int (nI g), .int cl, .ref (q 3)]) (n := 7) (Nat.le_of_ble_eq_true rfl)
  rw [lg_entry_eq]
  generalize (lg_sl ([.ref (q 14), .int (nI j), .int (nI g), .int cl, .ref (q 3)]) ++ List.replicate (7 - (lg_sl ([.ref (q 14), .int (nI j), .int (nI g), .int cl, .ref (q 3)])).length) Slot.unset).toArray = ls at hl ⊢
  have hl : lv_has ls 7 [(0, .ref (q 14)), (1, .int (nI j)), (2, .int (nI g)), (3, .int cl), (4, .ref (q 3))] := hl
  refine lv_aload hx hb dX3_lensPower_0 (lv_at hl 4 rfl) ?_
  refine lv_iload_n hx hb dX3_lensPower_2 rfl (lv_at hl 2 rfl) ?_
  refine lv_iload_n hx hb dX3_lensPower_3 rfl (lv_at hl 3 rfl) ?_
  refine roVl (As := [.int (nI g), .int cl]) (rest := []) (c_X0_indexFor l dC dI cI cJ q G n hn g (by omega) cl) ⟨hx, hb, hml, hown, hts⟩ (cwV 2 hts gX3_lensPower_X0_indexFor rfl rfl rfl (by decide +kernel) ⟨Nat.le_of_ble_eq_true rfl, Nat.le_of_ble_eq_true rfl⟩) (hP.sub [3, 4, 5, 6, 7] rfl) hK hN (ci := 0) rfl rfl rfl hl.1 rfl (Nat.le_of_ble_eq_true rfl) dX3_lensPower_4 ⟨Nat.zero_le _, Nat.zero_le _⟩ (fun r hr0 => ?_)
  subst hr0
  refine lv_ldc2 (v := 100000) hx hb hown (hts (.constantLong RX3 36 (100000)) (by decide +kernel)) dX3_lensPower_7 ?_
  refine lv_lsub hx hb dX3_lensPower_10 ?_
  refine lv_lstore (lv' := [(5, .long (((vN G g cl).toInt64) - 100000)), (0, .ref (q 14)), (1, .int (nI j)), (2, .int (nI g)), (3, .int cl), (4, .ref (q 3))]) hx hb dX3_lensPower_11 hl (by decide) rfl (fun ls hl => ?_)
  refine lv_aload_n hx hb dX3_lensPower_13 rfl (lv_at hl 1 rfl) ?_
  refine va_get (D := (dC, dI)) (ci := 3) (v := .ref (q 16)) (C := RX3) (T := TX3) (N := 3) hx hb hts (by decide +kernel) hown hK hP 0 rfl rfl 1 (by decide) (hts (.fieldLink RX3 15 "AchromatDesk$LensSystem" "powers" "[I") (by decide +kernel)) (fun _ h9 => h9) rfl dX3_lensPower_14 ?_
  refine lv_iload_n hx hb dX3_lensPower_17 rfl (lv_at hl 2 rfl) ?_
  refine ar_iald hx hb hK hP 2 0 rfl rfl j rfl (by omega) (by omega) dX3_lensPower_18 ?_
  refine lv_i2l (v := (lp j).toInt64) hx hb dX3_lensPower_19 rfl ?_
  refine lv_ldc2 (v := 1000) hx hb hown (hts (.constantLong RX3 38 (1000)) (by decide +kernel)) dX3_lensPower_20 ?_
  refine lv_lmul hx hb dX3_lensPower_23 ?_
  refine lv_lload hx hb dX3_lensPower_24 (lv_at hl 0 rfl) ?_
  refine lv_lmul hx hb dX3_lensPower_26 ?_
  refine lv_aload hx hb dX3_lensPower_27 (lv_at hl 5 rfl) ?_
  refine lv_aload_n hx hb dX3_lensPower_29 rfl (lv_at hl 1 rfl) ?_
  refine va_get (D := (dC, dI)) (ci := 3) (v := .ref (q 15)) (C := RX3) (T := TX3) (N := 3) hx hb hts (by decide +kernel) hown hK hP 0 rfl rfl 0 (by decide) (hts (.fieldLink RX3 9 "AchromatDesk$LensSystem" "glassNumbers" "[I") (by decide +kernel)) (fun _ h9 => h9) rfl dX3_lensPower_30 ?_
  refine lv_iload_n hx hb dX3_lensPower_33 rfl (lv_at hl 2 rfl) ?_
  refine ar_iald hx hb hK hP 1 0 rfl rfl j rfl (by omega) (by omega) dX3_lensPower_34 ?_
  have hq := (hL j (by omega)).2
  refine rw_topi (show (lg j : Int32) = (nI (ix (lg j)) : Int32) from (hL j (by omega)).1) ?_
  refine roVl (As := [.int (nI (ix (lg j)))]) (rest := [.long ((((lp j).toInt64) * 1000) * (((vN G g cl).toInt64) - 100000))]) (c_X0_valueA l dC dI cI cJ q G n hn (ix (lg j)) (by omega)) ⟨hx, hb, hml, hown, hts⟩ (cwV 1 hts gX3_lensPower_X0_valueA rfl rfl rfl (by decide +kernel) ⟨Nat.le_of_ble_eq_true rfl, Nat.le_of_ble_eq_true rfl⟩) (hP.sub [3, 4, 5, 6, 7] rfl) hK hN (ci := 0) rfl rfl rfl hl.1 rfl (Nat.le_of_ble_eq_true rfl) dX3_lensPower_35 ⟨Nat.zero_le _, Nat.zero_le _⟩ (fun r hr0 => ?_)
  subst hr0
  refine nsSl (As := [.long ((((lp j).toInt64) * 1000) * (((vN G g cl).toInt64) - 100000)), .long (vA G (ix (lg j)))]) (rest := []) (c_X5_floorQuotient l ((((lp j).toInt64) * 1000) * (((vN G g cl).toInt64) - 100000)) (vA G (ix (lg j)))) ⟨hx, hb, hml, hown, hts⟩ (va_cnB 2 hts gX3_lensPower_X5_floorQuotient_n44 rfl rfl rfl (hN.at 12 rfl) (hts (.initialized RX5) (by decide +kernel)) (by decide +kernel) ⟨Nat.le_of_ble_eq_true rfl, Nat.le_of_ble_eq_true rfl⟩) (hts (.static yX5_floorQuotient) (by decide +kernel)) rfl hl.1 rfl (Nat.le_of_ble_eq_true rfl) dX3_lensPower_38 ⟨Nat.zero_le _, Nat.zero_le _⟩ (fun r hr0 => ?_)
  subst hr0
  exact W.lret hx hb hr (fun t ht hW => ⟨_, rfl, rfl, ht⟩) (fun _ h => absurd h List.not_mem_nil) dX3_lensPower_41

set_option maxHeartbeats 4000000 in
set_option maxRecDepth 100000 in
theorem c_X3_powerFor (l : Launch) (dC : Nat → ClassId) (dI : Nat → Nat → Nat) (cI cJ : ClassId) (q : Nat → Nat) (G : GL) (n : Nat) (hn : n ≤ 20) (lg lp : Nat → Int32) (k : Nat) (hk : k ≤ 8) (hL : lOK lg k n) (cl : Int32) : Met l yX3_powerFor wsX3_powerFor ({ frames := 3, cells := 0, slots := 0, locals := 74 }) (va_Pc [.ref (q 14), .int cl, .ref (q 3)] (RO (dC, dI) (tyK cI cJ) ([(q 14, .inr (3, [.ref (q 15), .ref (q 16), .int (nI k)])), (q 15, .inl (cI, 8, .inl lg)), (q 16, .inl (cI, 8, .inl lp)), (q 3, .inr (0, [.ref (q 4), .ref (q 5), .ref (q 6), .ref (q 7), .int (nI n)])), (q 4, .inl (cJ, 20, .inr (.inl (gK G)))), (q 5, .inl (cI, 20, .inl (gF G))), (q 6, .inl (cI, 20, .inl (gD G))), (q 7, .inl (cI, 20, .inl (gC G)))]))) (vp_Sl (fun r => r = vP G lg lp cl k)) 0 0 (fun _ => False) := by
  refine Met.ofW (cc := cX3_powerFor) (maxL := 6) (ret := (some .long)) (by decide) rfl ?_
  intro p e s m args below meth c s₁ B hml hv
  obtain ⟨rfl, hP, hK, hN⟩ := hv
  have hx := B.exec
  have hb := B.bytes
  have hr := B.returns
  have hts := atoms_spec (ws := wsX3_powerFor) B.pre
  have hown : s.vm.findClass RX3 = some m.cls := findClass_of_methodNamed B.named
  have hlocks := B.notSynchronized
  have hP : va_P (dC, dI) vwCl [(q 14, .inr (3, [.ref (q 15), .ref (q 16), .int (nI k)])), (q 15, .inl (cI, 8, .inl lg)), (q 16, .inl (cI, 8, .inl lp)), (q 3, .inr (0, [.ref (q 4), .ref (q 5), .ref (q 6), .ref (q 7), .int (nI n)])), (q 4, .inl (cJ, 20, .inr (.inl (gK G)))), (q 5, .inl (cI, 20, .inl (gF G))), (q 6, .inl (cI, 20, .inl (gD G))), (q 7, .inl (cI, 20, .inl (gC G)))] s.heap := hP
  have hl := lv_entry ([.ref (q 14), .int cl, .ref (q 3)]) (n := 6) (Nat.le_of_ble_eq_true rfl)
  rw [lg_entry_eq]
  generalize (lg_sl ([.ref (q 14), .int cl, .ref (q 3)]) ++ List.replicate (6 - (lg_sl ([.ref (q 14), .int cl, .ref (q 3)])).length) Slot.unset).toArray = ls at hl ⊢
  have hl : lv_has ls 6 [(0, .ref (q 14)), (1, .int cl), (2, .ref (q 3))] := hl
  refine lv_lconst (v := 0) hx hb dX3_powerFor_0 (by decide) ?_
  refine lv_lstore_n (lv' := [(3, .long 0), (0, .ref (q 14)), (1, .int cl), (2, .ref (q 3))]) hx hb dX3_powerFor_1 rfl hl (by decide) rfl (fun ls hl => ?_)
  refine lv_iconst (v := 0) hx hb dX3_powerFor_2 (by decide) ?_
  refine lv_istore (lv' := [(5, .int 0), (3, .long 0), (0, .ref (q 14)), (1, .int cl), (2, .ref (q 3))]) hx hb dX3_powerFor_3 hl (by decide) rfl (fun ls hl => ?_)
  refine rloopZ (nL := 6) 0 k (fun j z => z + vL G lg lp j (ix (lg j)) cl) 0 (fun k5 z5 => [(5, .int (nI k5)), (3, .long z5), (0, .ref (q 14)), (1, .int cl), (2, .ref (q 3))]) (fun _ _ => True) (by omega) (trivial) (lv_sub hl [0, 1, 2, 3, 4] rfl) (fun k5 z5 hlo5 hk5 hz5 hI5 ls hl ih5 => ?_) (fun z5 hz5 hI5 ls hl => ?_)
  · refine lv_iload hx hb dX3_powerFor_5 (lv_at hl 0 rfl) ?_
    refine lv_aload_n hx hb dX3_powerFor_7 rfl (lv_at hl 2 rfl) ?_
    refine va_get (D := (dC, dI)) (ci := 3) (v := .int (nI k)) (C := RX3) (T := TX3) (N := 3) hx hb hts (by decide +kernel) hown hK hP 0 rfl rfl 2 (by decide) (hts (.fieldLink RX3 18 "AchromatDesk$LensSystem" "count" "I") (by decide +kernel)) (fun _ h9 => h9) rfl dX3_powerFor_8 ?_
    refine rn_ge (tgt := 38) hx hb k5 k rfl rfl (by omega) (by omega) dX3_powerFor_11 (by decide) (fun h11 => ?_) (fun h11 => ?_)
    · exfalso; omega
    · refine lv_lload_n hx hb dX3_powerFor_14 rfl (lv_at hl 1 rfl) ?_
      refine lv_aload_n hx hb dX3_powerFor_15 rfl (lv_at hl 2 rfl) ?_
      refine lv_iload hx hb dX3_powerFor_16 (lv_at hl 0 rfl) ?_
      refine lv_aload_n hx hb dX3_powerFor_18 rfl (lv_at hl 2 rfl) ?_
      refine va_get (D := (dC, dI)) (ci := 3) (v := .ref (q 15)) (C := RX3) (T := TX3) (N := 3) hx hb hts (by decide +kernel) hown hK hP 0 rfl rfl 0 (by decide) (hts (.fieldLink RX3 9 "AchromatDesk$LensSystem" "glassNumbers" "[I") (by decide +kernel)) (fun _ h9 => h9) rfl dX3_powerFor_19 ?_
      refine lv_iload hx hb dX3_powerFor_22 (lv_at hl 0 rfl) ?_
      refine ar_iald hx hb hK hP 1 0 rfl rfl k5 rfl (by omega) (by omega) dX3_powerFor_24 ?_
      have hq := (hL k5 (by omega)).2
      refine rw_topi (show (lg k5 : Int32) = (nI (ix (lg k5)) : Int32) from (hL k5 (by omega)).1) ?_
      refine lv_iload_n hx hb dX3_powerFor_25 rfl (lv_at hl 3 rfl) ?_
      refine lv_aload_n hx hb dX3_powerFor_26 rfl (lv_at hl 4 rfl) ?_
      refine roVl (As := [.int (nI k5), .int (nI (ix (lg k5))), .int cl, .ref (q 3)]) (rest := [.long z5]) (c_X3_lensPower l dC dI cI cJ q G n hn lg lp k hk hL k5 (by omega) (ix (lg k5)) (by omega) cl) ⟨hx, hb, hml, hown, hts⟩ (cwV 4 hts gX3_powerFor_X3_lensPower rfl rfl rfl (by decide +kernel) ⟨Nat.le_of_ble_eq_true rfl, Nat.le_of_ble_eq_true rfl⟩) (hP.sub [0, 1, 2, 3, 4, 5, 6, 7] rfl) hK hN (ci := 3) rfl rfl rfl hl.1 rfl (Nat.le_of_ble_eq_true rfl) dX3_powerFor_27 ⟨Nat.zero_le _, Nat.zero_le _⟩ (fun r hr0 => ?_)
      subst hr0
      refine lv_ladd hx hb dX3_powerFor_30 ?_
      refine lv_lstore_n (lv' := [(3, .long (z5 + (vL G lg lp k5 (ix (lg k5)) cl))), (5, .int (nI k5)), (0, .ref (q 14)), (1, .int cl), (2, .ref (q 3))]) hx hb dX3_powerFor_31 rfl hl (by decide) rfl (fun ls hl => ?_)
      refine lv_iinc (v := nI (k5 + 1)) (lv' := [(5, .int (nI (k5 + 1))), (3, .long (z5 + (vL G lg lp k5 (ix (lg k5)) cl))), (0, .ref (q 14)), (1, .int cl), (2, .ref (q 3))]) hx hb dX3_powerFor_32 hl (k := 1) rfl (by first | rfl | exact nI_add _ _) (by decide) rfl (fun ls hl => ?_)
      refine lv_goto (tgt := 5) hx hb dX3_powerFor_35 (by decide) ?_
      exact ih5 (z5 + (vL G lg lp k5 (ix (lg k5)) cl)) (rfl) (trivial) ls (lv_sub hl [0, 1, 2, 3, 4] rfl)
  · refine lv_iload hx hb dX3_powerFor_5 (lv_at hl 0 rfl) ?_
    refine lv_aload_n hx hb dX3_powerFor_7 rfl (lv_at hl 2 rfl) ?_
    refine va_get (D := (dC, dI)) (ci := 3) (v := .int (nI k)) (C := RX3) (T := TX3) (N := 3) hx hb hts (by decide +kernel) hown hK hP 0 rfl rfl 2 (by decide) (hts (.fieldLink RX3 18 "AchromatDesk$LensSystem" "count" "I") (by decide +kernel)) (fun _ h9 => h9) rfl dX3_powerFor_8 ?_
    refine rn_ge (tgt := 38) hx hb k k rfl rfl (by omega) (by omega) dX3_powerFor_11 (by decide) (fun h11 => ?_) (fun h11 => ?_)
    · refine lv_lload_n hx hb dX3_powerFor_38 rfl (lv_at hl 1 rfl) ?_
      exact W.lret hx hb hr (fun t ht hW => ⟨_, rfl, by rw [hz5]; rfl, ht⟩) (fun _ h => absurd h List.not_mem_nil) dX3_powerFor_39
    · exfalso; omega

set_option maxHeartbeats 4000000 in
set_option maxRecDepth 100000 in
theorem c_X3_changeWith (l : Launch) (dC : Nat → ClassId) (dI : Nat → Nat → Nat) (cI cJ : ClassId) (q : Nat → Nat) (G : GL) (n : Nat) (hn : n ≤ 20) (lg lp : Nat → Int32) (k : Nat) (hk : k ≤ 8) (hL : lOK lg k n) (j : Nat) (hj : j < k) (g : Nat) (hg : g < n) (cl : Int32) : Met l yX3_changeWith wsX3_changeWith ({ frames := 3, cells := 0, slots := 0, locals := 74 }) (va_Pc [.ref (q 14), .int (nI j), .int (nI g), .int cl, .ref (q 3)] (RO (dC, dI) (tyK cI cJ) ([(q 14, .inr (3, [.ref (q 15), .ref (q 16), .int (nI k)])), (q 15, .inl (cI, 8, .inl lg)), (q 16, .inl (cI, 8, .inl lp)), (q 3, .inr (0, [.ref (q 4), .ref (q 5), .ref (q 6), .ref (q 7), .int (nI n)])), (q 4, .inl (cJ, 20, .inr (.inl (gK G)))), (q 5, .inl (cI, 20, .inl (gF G))), (q 6, .inl (cI, 20, .inl (gD G))), (q 7, .inl (cI, 20, .inl (gC G)))]))) (vp_Sl (fun r => r = vCh G lg lp j g cl)) 0 0 (fun _ => False) := by
  refine Met.ofW (cc := cX3_changeWith) (maxL := 5) (ret := (some .long)) (by decide) rfl ?_
  intro p e s m args below meth c s₁ B hml hv
  obtain ⟨rfl, hP, hK, hN⟩ := hv
  have hx := B.exec
  have hb := B.bytes
  have hr := B.returns
  have hts := atoms_spec (ws := wsX3_changeWith) B.pre
  have hown : s.vm.findClass RX3 = some m.cls := findClass_of_methodNamed B.named
  have hlocks := B.notSynchronized
  have hP : va_P (dC, dI) vwCl [(q 14, .inr (3, [.ref (q 15), .ref (q 16), .int (nI k)])), (q 15, .inl (cI, 8, .inl lg)), (q 16, .inl (cI, 8, .inl lp)), (q 3, .inr (0, [.ref (q 4), .ref (q 5), .ref (q 6), .ref (q 7), .int (nI n)])), (q 4, .inl (cJ, 20, .inr (.inl (gK G)))), (q 5, .inl (cI, 20, .inl (gF G))), (q 6, .inl (cI, 20, .inl (gD G))), (q 7, .inl (cI, 20, .inl (gC G)))] s.heap := hP
  have hl := lv_entry ([.ref (q 14), .int (nI j), .int (nI g), .int cl, .ref (q 3)]) (n := 5) (Nat.le_of_ble_eq_true rfl)
  rw [lg_entry_eq]
  generalize (lg_sl ([.ref (q 14), .int (nI j), .int (nI g), .int cl, .ref (q 3)]) ++ List.replicate (5 - (lg_sl ([.ref (q 14), .int (nI j), .int (nI g), .int cl, .ref (q 3)])).length) Slot.unset).toArray = ls at hl ⊢
  have hl : lv_has ls 5 [(0, .ref (q 14)), (1, .int (nI j)), (2, .int (nI g)), (3, .int cl), (4, .ref (q 3))] := hl
  refine lv_aload_n hx hb dX3_changeWith_0 rfl (lv_at hl 0 rfl) ?_
  refine lv_iload_n hx hb dX3_changeWith_1 rfl (lv_at hl 1 rfl) ?_
  refine lv_iload_n hx hb dX3_changeWith_2 rfl (lv_at hl 2 rfl) ?_
  refine lv_iload_n hx hb dX3_changeWith_3 rfl (lv_at hl 3 rfl) ?_
  refine lv_aload hx hb dX3_changeWith_4 (lv_at hl 4 rfl) ?_
  refine roVl (As := [.int (nI j), .int (nI g), .int cl, .ref (q 3)]) (rest := []) (c_X3_lensPower l dC dI cI cJ q G n hn lg lp k hk hL j (by omega) g (by omega) cl) ⟨hx, hb, hml, hown, hts⟩ (cwV 4 hts gX3_changeWith_X3_lensPower rfl rfl rfl (by decide +kernel) ⟨Nat.le_of_ble_eq_true rfl, Nat.le_of_ble_eq_true rfl⟩) (hP.sub [0, 1, 2, 3, 4, 5, 6, 7] rfl) hK hN (ci := 3) rfl rfl rfl hl.1 rfl (Nat.le_of_ble_eq_true rfl) dX3_changeWith_6 ⟨Nat.zero_le _, Nat.zero_le _⟩ (fun r hr0 => ?_)
  subst hr0
  refine lv_aload_n hx hb dX3_changeWith_9 rfl (lv_at hl 0 rfl) ?_
  refine lv_iload_n hx hb dX3_changeWith_10 rfl (lv_at hl 1 rfl) ?_
  refine lv_aload_n hx hb dX3_changeWith_11 rfl (lv_at hl 0 rfl) ?_
  refine va_get (D := (dC, dI)) (ci := 3) (v := .ref (q 15)) (C := RX3) (T := TX3) (N := 3) hx hb hts (by decide +kernel) hown hK hP 0 rfl rfl 0 (by decide) (hts (.fieldLink RX3 9 "AchromatDesk$LensSystem" "glassNumbers" "[I") (by decide +kernel)) (fun _ h9 => h9) rfl dX3_changeWith_12 ?_
  refine lv_iload_n hx hb dX3_changeWith_15 rfl (lv_at hl 1 rfl) ?_
  refine ar_iald hx hb hK hP 1 0 rfl rfl j rfl (by omega) (by omega) dX3_changeWith_16 ?_
  have hq := (hL j (by omega)).2
  refine rw_topi (show (lg j : Int32) = (nI (ix (lg j)) : Int32) from (hL j (by omega)).1) ?_
  refine lv_iload_n hx hb dX3_changeWith_17 rfl (lv_at hl 3 rfl) ?_
  refine lv_aload hx hb dX3_changeWith_18 (lv_at hl 4 rfl) ?_
  refine roVl (As := [.int (nI j), .int (nI (ix (lg j))), .int cl, .ref (q 3)]) (rest := [.long (vL G lg lp j g cl)]) (c_X3_lensPower l dC dI cI cJ q G n hn lg lp k hk hL j (by omega) (ix (lg j)) (by omega) cl) ⟨hx, hb, hml, hown, hts⟩ (cwV 4 hts gX3_changeWith_X3_lensPower rfl rfl rfl (by decide +kernel) ⟨Nat.le_of_ble_eq_true rfl, Nat.le_of_ble_eq_true rfl⟩) (hP.sub [0, 1, 2, 3, 4, 5, 6, 7] rfl) hK hN (ci := 3) rfl rfl rfl hl.1 rfl (Nat.le_of_ble_eq_true rfl) dX3_changeWith_20 ⟨Nat.zero_le _, Nat.zero_le _⟩ (fun r hr0 => ?_)
  subst hr0
  refine lv_lsub hx hb dX3_changeWith_23 ?_
  exact W.lret hx hb hr (fun t ht hW => ⟨_, rfl, rfl, ht⟩) (fun _ h => absurd h List.not_mem_nil) dX3_changeWith_24

set_option maxHeartbeats 4000000 in
set_option maxRecDepth 100000 in
theorem c_X4_has (l : Launch) (dC : Nat → ClassId) (dI : Nat → Nat → Nat) (cI cJ : ClassId) (q : Nat → Nat) (rd : Nat → Int32) (np : Nat) (hp : np ≤ 16) (x : Int32) : Met l yX4_has wsX4_has ({ frames := 0, cells := 0, slots := 0, locals := 0 }) (va_Pc [.ref (q 17), .int x] (RO (dC, dI) (tyK cI cJ) ([(q 17, .inr (4, [.ref (q 18), .int (nI np)])), (q 18, .inl (cI, 16, .inl rd))]))) (vp_Si (fun r => r = if hasP x np then 1 else 0)) 0 0 (fun _ => False) := by
  refine Met.ofW (cc := cX4_has) (maxL := 2) (ret := (some .boolean)) (by decide) rfl ?_
  intro p e s m args below meth c s₁ B hml hv
  obtain ⟨rfl, hP, hK, hN⟩ := hv
  have hx := B.exec
  have hb := B.bytes
  have hr := B.returns
  have hts := atoms_spec (ws := wsX4_has) B.pre
  have hown : s.vm.findClass RX4 = some m.cls := findClass_of_methodNamed B.named
  have hlocks := B.notSynchronized
  have hP : va_P (dC, dI) vwCl [(q 17, .inr (4, [.ref (q 18), .int (nI np)])), (q 18, .inl (cI, 16, .inl rd))] s.heap := hP
  have hl := lv_entry ([.ref (q 17), .int x]) (n := 2) (Nat.le_of_ble_eq_true rfl)
  rw [lg_entry_eq]
  generalize (lg_sl ([.ref (q 17), .int x]) ++ List.replicate (2 - (lg_sl ([.ref (q 17), .int x])).length) Slot.unset).toArray = ls at hl ⊢
  have hl : lv_has ls 2 [(0, .ref (q 17)), (1, .int x)] := hl
  refine lv_iload_n hx hb dX4_has_0 rfl (lv_at hl 1 rfl) ?_
  refine lv_if_lt (tgt := 16) hx hb dX4_has_1 (by decide) (fun h1 => ?_) (fun h1 => ?_)
  · refine lv_iconst (v := 0) hx hb dX4_has_16 (by decide) ?_
    exact W.zret hx hb hr (by decide) (fun t ht hW => ⟨_, rfl, (if_neg (fun z => absurd z.1 (Int32.not_le.mpr h1))).symm, ht⟩) (fun _ h => absurd h List.not_mem_nil) dX4_has_17
  · refine lv_iload_n hx hb dX4_has_4 rfl (lv_at hl 1 rfl) ?_
    refine lv_aload_n hx hb dX4_has_5 rfl (lv_at hl 0 rfl) ?_
    refine va_get (D := (dC, dI)) (ci := 4) (v := .int (nI np)) (C := RX4) (T := TX4) (N := 2) hx hb hts (by decide +kernel) hown hK hP 0 rfl rfl 1 (by decide) (hts (.fieldLink RX4 15 "AchromatDesk$PlateSet" "count" "I") (by decide +kernel)) (fun _ h9 => h9) rfl dX4_has_6 ?_
    refine lv_icmp_ge (tgt := 16) hx hb dX4_has_9 (by decide) (fun h9 => ?_) (fun h9 => ?_)
    · refine lv_iconst (v := 0) hx hb dX4_has_16 (by decide) ?_
      exact W.zret hx hb hr (by decide) (fun t ht hW => ⟨_, rfl, (if_neg (fun z => absurd z.2 (Int32.not_lt.mpr h9))).symm, ht⟩) (fun _ h => absurd h List.not_mem_nil) dX4_has_17
    · refine lv_iconst (v := 1) hx hb dX4_has_12 (by decide) ?_
      refine lv_goto (tgt := 17) hx hb dX4_has_13 (by decide) ?_
      exact W.zret hx hb hr (by decide) (fun t ht hW => ⟨_, rfl, (if_pos ⟨Int32.not_lt.mp h1, Int32.not_le.mp h9⟩).symm, ht⟩) (fun _ h => absurd h List.not_mem_nil) dX4_has_17

set_option maxHeartbeats 4000000 in
set_option maxRecDepth 100000 in
theorem c_X4_hasRadius (l : Launch) (dC : Nat → ClassId) (dI : Nat → Nat → Nat) (cI cJ : ClassId) (q : Nat → Nat) (rd : Nat → Int32) (np : Nat) (hp : np ≤ 16) (y : Int32) : Met l yX4_hasRadius wsX4_hasRadius ({ frames := 0, cells := 0, slots := 0, locals := 0 }) (va_Pc [.ref (q 17), .int y] (RO (dC, dI) (tyK cI cJ) ([(q 17, .inr (4, [.ref (q 18), .int (nI np)])), (q 18, .inl (cI, 16, .inl rd))]))) (vp_Si (fun r => r = if (∃ g, g < np ∧ rd g = y) then 1 else 0)) 0 0 (fun _ => False) := by
  refine Met.ofW (cc := cX4_hasRadius) (maxL := 3) (ret := (some .boolean)) (by decide) rfl ?_
  intro p e s m args below meth c s₁ B hml hv
  obtain ⟨rfl, hP, hK, hN⟩ := hv
  have hx := B.exec
  have hb := B.bytes
  have hr := B.returns
  have hts := atoms_spec (ws := wsX4_hasRadius) B.pre
  have hown : s.vm.findClass RX4 = some m.cls := findClass_of_methodNamed B.named
  have hlocks := B.notSynchronized
  have hP : va_P (dC, dI) vwCl [(q 17, .inr (4, [.ref (q 18), .int (nI np)])), (q 18, .inl (cI, 16, .inl rd))] s.heap := hP
  have hl := lv_entry ([.ref (q 17), .int y]) (n := 3) (Nat.le_of_ble_eq_true rfl)
  rw [lg_entry_eq]
  generalize (lg_sl ([.ref (q 17), .int y]) ++ List.replicate (3 - (lg_sl ([.ref (q 17), .int y])).length) Slot.unset).toArray = ls at hl ⊢
  have hl : lv_has ls 3 [(0, .ref (q 17)), (1, .int y)] := hl
  refine lv_iconst (v := 0) hx hb dX4_hasRadius_0 (by decide) ?_
  refine lv_istore_n (lv' := [(2, .int 0), (0, .ref (q 17)), (1, .int y)]) hx hb dX4_hasRadius_1 rfl hl (by decide) rfl (fun ls hl => ?_)
  refine rloopZ (nL := 3) 0 np (fun _ z => z) () (fun k2 z2 => [(2, .int (nI k2)), (0, .ref (q 17)), (1, .int y)]) (fun k _ => ∀ g, g < k → ¬ rd g = y) (by omega) (fun g h => absurd h (Nat.not_lt_zero g)) (lv_sub hl [0, 1, 2] rfl) (fun k2 z2 hlo2 hk2 hz2 hI2 ls hl ih2 => ?_) (fun z2 hz2 hI2 ls hl => ?_)
  · refine lv_iload_n hx hb dX4_hasRadius_2 rfl (lv_at hl 0 rfl) ?_
    refine lv_aload_n hx hb dX4_hasRadius_3 rfl (lv_at hl 1 rfl) ?_
    refine va_get (D := (dC, dI)) (ci := 4) (v := .int (nI np)) (C := RX4) (T := TX4) (N := 2) hx hb hts (by decide +kernel) hown hK hP 0 rfl rfl 1 (by decide) (hts (.fieldLink RX4 15 "AchromatDesk$PlateSet" "count" "I") (by decide +kernel)) (fun _ h9 => h9) rfl dX4_hasRadius_4 ?_
    refine rn_ge (tgt := 28) hx hb k2 np rfl rfl (by omega) (by omega) dX4_hasRadius_7 (by decide) (fun h7 => ?_) (fun h7 => ?_)
    · exfalso; omega
    · refine lv_aload_n hx hb dX4_hasRadius_10 rfl (lv_at hl 1 rfl) ?_
      refine va_get (D := (dC, dI)) (ci := 4) (v := .ref (q 18)) (C := RX4) (T := TX4) (N := 2) hx hb hts (by decide +kernel) hown hK hP 0 rfl rfl 0 (by decide) (hts (.fieldLink RX4 9 "AchromatDesk$PlateSet" "radii" "[I") (by decide +kernel)) (fun _ h9 => h9) rfl dX4_hasRadius_11 ?_
      refine lv_iload_n hx hb dX4_hasRadius_14 rfl (lv_at hl 0 rfl) ?_
      refine ar_iald hx hb hK hP 1 0 rfl rfl k2 rfl (by omega) (by omega) dX4_hasRadius_15 ?_
      refine lv_iload_n hx hb dX4_hasRadius_16 rfl (lv_at hl 2 rfl) ?_
      refine lv_icmp_ne (tgt := 22) hx hb dX4_hasRadius_17 (by decide) (fun h17 => ?_) (fun h17 => ?_)
      · refine lv_iinc (v := nI (k2 + 1)) (lv' := [(2, .int (nI (k2 + 1))), (0, .ref (q 17)), (1, .int y)]) hx hb dX4_hasRadius_22 hl (k := 0) rfl (by first | rfl | exact nI_add _ _) (by decide) rfl (fun ls hl => ?_)
        refine lv_goto (tgt := 2) hx hb dX4_hasRadius_25 (by decide) ?_
        exact ih2 () (rfl) (fun g h => (Nat.lt_succ_iff_lt_or_eq.mp h).elim (hI2 g) (fun e => e ▸ h17)) ls (lv_sub hl [0, 1, 2] rfl)
      · refine lv_iconst (v := 1) hx hb dX4_hasRadius_20 (by decide) ?_
        exact W.zret hx hb hr (by decide) (fun t ht hW => ⟨_, rfl, (if_pos ⟨k2, hk2, h17⟩).symm, ht⟩) (fun _ h => absurd h List.not_mem_nil) dX4_hasRadius_21
  · refine lv_iload_n hx hb dX4_hasRadius_2 rfl (lv_at hl 0 rfl) ?_
    refine lv_aload_n hx hb dX4_hasRadius_3 rfl (lv_at hl 1 rfl) ?_
    refine va_get (D := (dC, dI)) (ci := 4) (v := .int (nI np)) (C := RX4) (T := TX4) (N := 2) hx hb hts (by decide +kernel) hown hK hP 0 rfl rfl 1 (by decide) (hts (.fieldLink RX4 15 "AchromatDesk$PlateSet" "count" "I") (by decide +kernel)) (fun _ h9 => h9) rfl dX4_hasRadius_4 ?_
    refine rn_ge (tgt := 28) hx hb np np rfl rfl (by omega) (by omega) dX4_hasRadius_7 (by decide) (fun h7 => ?_) (fun h7 => ?_)
    · refine lv_iconst (v := 0) hx hb dX4_hasRadius_28 (by decide) ?_
      exact W.zret hx hb hr (by decide) (fun t ht hW => ⟨_, rfl, (if_neg (fun ⟨g, hg, hq⟩ => hI2 g hg hq)).symm, ht⟩) (fun _ h => absurd h List.not_mem_nil) dX4_hasRadius_29
    · exfalso; omega

set_option maxHeartbeats 4000000 in
set_option maxRecDepth 100000 in
theorem c_X4_signedRadius (l : Launch) (dC : Nat → ClassId) (dI : Nat → Nat → Nat) (cI cJ : ClassId) (q : Nat → Nat) (rd : Nat → Int32) (np : Nat) (hp : np ≤ 16) (f : Nat) (hf : f < 2 * np) : Met l yX4_signedRadius wsX4_signedRadius ({ frames := 0, cells := 0, slots := 0, locals := 0 }) (va_Pc [.ref (q 17), .int (nI f)] (RO (dC, dI) (tyK cI cJ) ([(q 17, .inr (4, [.ref (q 18), .int (nI np)])), (q 18, .inl (cI, 16, .inl rd))]))) (vp_Sl (fun r => r = sR rd f)) 0 0 (fun _ => False) := by
  refine Met.ofW (cc := cX4_signedRadius) (maxL := 3) (ret := (some .long)) (by decide) rfl ?_
  intro p e s m args below meth c s₁ B hml hv
  obtain ⟨rfl, hP, hK, hN⟩ := hv
  have hx := B.exec
  have hb := B.bytes
  have hr := B.returns
  have hts := atoms_spec (ws := wsX4_signedRadius) B.pre
  have hown : s.vm.findClass RX4 = some m.cls := findClass_of_methodNamed B.named
  have hlocks := B.notSynchronized
  have hP : va_P (dC, dI) vwCl [(q 17, .inr (4, [.ref (q 18), .int (nI np)])), (q 18, .inl (cI, 16, .inl rd))] s.heap := hP
  have hl := lv_entry ([.ref (q 17), .int (nI f)]) (n := 3) (Nat.le_of_ble_eq_true rfl)
  rw [lg_entry_eq]
  generalize (lg_sl ([.ref (q 17), .int (nI f)]) ++ List.replicate (3 - (lg_sl ([.ref (q 17), .int (nI f)])).length) Slot.unset).toArray = ls at hl ⊢
  have hl : lv_has ls 3 [(0, .ref (q 17)), (1, .int (nI f))] := hl
  refine lv_aload_n hx hb dX4_signedRadius_0 rfl (lv_at hl 0 rfl) ?_
  refine va_get (D := (dC, dI)) (ci := 4) (v := .ref (q 18)) (C := RX4) (T := TX4) (N := 2) hx hb hts (by decide +kernel) hown hK hP 0 rfl rfl 0 (by decide) (hts (.fieldLink RX4 9 "AchromatDesk$PlateSet" "radii" "[I") (by decide +kernel)) (fun _ h9 => h9) rfl dX4_signedRadius_1 ?_
  refine lv_iload_n hx hb dX4_signedRadius_4 rfl (lv_at hl 1 rfl) ?_
  refine lv_iconst (v := 2) hx hb dX4_signedRadius_5 (by decide) ?_
  refine lv_idiv hx hb dX4_signedRadius_6 (by decide) ?_
  refine rw_topi (pk_div (a := f) (d := 2) (by omega) (by omega) (by omega)) ?_
  refine ar_iald hx hb hK hP 1 0 rfl rfl (f / 2) rfl (by omega) (by omega) dX4_signedRadius_7 ?_
  refine lv_istore_n (lv' := [(2, .int (rd (f / 2))), (0, .ref (q 17)), (1, .int (nI f))]) hx hb dX4_signedRadius_8 rfl hl (by decide) rfl (fun ls hl => ?_)
  refine lv_iload_n hx hb dX4_signedRadius_9 rfl (lv_at hl 2 rfl) ?_
  refine lv_iconst (v := 2) hx hb dX4_signedRadius_10 (by decide) ?_
  refine lv_irem hx hb dX4_signedRadius_11 (by decide) ?_
  refine rw_topi (pk_rem (a := f) (d := 2) (by omega) (by omega) (by omega)) ?_
  refine rz_ne (tgt := 20) hx hb (f % 2) rfl (by omega) dX4_signedRadius_12 (by decide) (fun h12 => ?_) (fun h12 => ?_)
  · refine lv_iload_n hx hb dX4_signedRadius_20 rfl (lv_at hl 0 rfl) ?_
    refine lv_ineg hx hb dX4_signedRadius_21 ?_
    refine lv_i2l (v := (-(rd (f / 2))).toInt64) hx hb dX4_signedRadius_22 rfl ?_
    exact W.lret hx hb hr (fun t ht hW => ⟨_, rfl, by first | rw [sR, if_neg h12] | rw [sR, if_pos h12], ht⟩) (fun _ h => absurd h List.not_mem_nil) dX4_signedRadius_23
  · refine lv_iload_n hx hb dX4_signedRadius_15 rfl (lv_at hl 0 rfl) ?_
    refine lv_i2l (v := (rd (f / 2)).toInt64) hx hb dX4_signedRadius_16 rfl ?_
    refine lv_goto (tgt := 23) hx hb dX4_signedRadius_17 (by decide) ?_
    exact W.lret hx hb hr (fun t ht hW => ⟨_, rfl, by first | rw [sR, if_neg h12] | rw [sR, if_pos h12], ht⟩) (fun _ h => absurd h List.not_mem_nil) dX4_signedRadius_23

set_option maxHeartbeats 4000000 in
set_option maxRecDepth 100000 in
theorem c_X4_nearestTo (l : Launch) (dC : Nat → ClassId) (dI : Nat → Nat → Nat) (cI cJ : ClassId) (q : Nat → Nat) (rd : Nat → Int32) (np : Nat) (hp : np ≤ 16) (r : Int32) : Met l yX4_nearestTo wsX4_nearestTo ({ frames := 1, cells := 0, slots := 0, locals := 21 }) (va_Pc [.ref (q 17), .int r] (RO (dC, dI) (tyK cI cJ) ([(q 17, .inr (4, [.ref (q 18), .int (nI np)])), (q 18, .inl (cI, 16, .inl rd))]))) (vp_Si (fun r1 => r1 = (near rd r np).1)) 0 0 (fun _ => False) := by
  refine Met.ofW (cc := cX4_nearestTo) (maxL := 9) (ret := (some .int)) (by decide) rfl ?_
  intro p e s m args below meth c s₁ B hml hv
  obtain ⟨rfl, hP, hK, hN⟩ := hv
  have hx := B.exec
  have hb := B.bytes
  have hr := B.returns
  have hts := atoms_spec (ws := wsX4_nearestTo) B.pre
  have hown : s.vm.findClass RX4 = some m.cls := findClass_of_methodNamed B.named
  have hlocks := B.notSynchronized
  have hP : va_P (dC, dI) vwCl [(q 17, .inr (4, [.ref (q 18), .int (nI np)])), (q 18, .inl (cI, 16, .inl rd))] s.heap := hP
  have hl := lv_entry ([.ref (q 17), .int r]) (n := 9) (Nat.le_of_ble_eq_true rfl)
  rw [lg_entry_eq]
  generalize (lg_sl ([.ref (q 17), .int r]) ++ List.replicate (9 - (lg_sl ([.ref (q 17), .int r])).length) Slot.unset).toArray = ls at hl ⊢
  have hl : lv_has ls 9 [(0, .ref (q 17)), (1, .int r)] := hl
  refine lv_iconst (v := (-1)) hx hb dX4_nearestTo_0 (by decide) ?_
  refine lv_istore_n (lv' := [(2, .int (-1)), (0, .ref (q 17)), (1, .int r)]) hx hb dX4_nearestTo_1 rfl hl (by decide) rfl (fun ls hl => ?_)
  refine lv_lconst (v := 0) hx hb dX4_nearestTo_2 (by decide) ?_
  refine lv_lstore_n (lv' := [(3, .long 0), (2, .int (-1)), (0, .ref (q 17)), (1, .int r)]) hx hb dX4_nearestTo_3 rfl hl (by decide) rfl (fun ls hl => ?_)
  refine lv_iconst (v := 0) hx hb dX4_nearestTo_4 (by decide) ?_
  refine lv_istore (lv' := [(5, .int 0), (3, .long 0), (2, .int (-1)), (0, .ref (q 17)), (1, .int r)]) hx hb dX4_nearestTo_5 hl (by decide) rfl (fun ls hl => ?_)
  refine rloopZ (nL := 9) 0 np (nearZ rd r) (-1, 0) (fun k7 z7 => [(5, .int (nI k7)), (3, .long z7.2), (2, .int z7.1), (0, .ref (q 17)), (1, .int r)]) (fun k z => z.1 < 0 ∨ ∃ j, j < k ∧ z.1 = nI j) (by omega) (Or.inl (by decide)) (lv_sub hl [0, 1, 2, 3, 4] rfl) (fun k7 z7 hlo7 hk7 hz7 hI7 ls hl ih7 => ?_) (fun z7 hz7 hI7 ls hl => ?_)
  · refine lv_iload hx hb dX4_nearestTo_7 (lv_at hl 0 rfl) ?_
    refine lv_aload_n hx hb dX4_nearestTo_9 rfl (lv_at hl 3 rfl) ?_
    refine va_get (D := (dC, dI)) (ci := 4) (v := .int (nI np)) (C := RX4) (T := TX4) (N := 2) hx hb hts (by decide +kernel) hown hK hP 0 rfl rfl 1 (by decide) (hts (.fieldLink RX4 15 "AchromatDesk$PlateSet" "count" "I") (by decide +kernel)) (fun _ h9 => h9) rfl dX4_nearestTo_10 ?_
    refine rn_ge (tgt := 90) hx hb k7 np rfl rfl (by omega) (by omega) dX4_nearestTo_13 (by decide) (fun h13 => ?_) (fun h13 => ?_)
    · exfalso; omega
    · refine lv_aload_n hx hb dX4_nearestTo_16 rfl (lv_at hl 3 rfl) ?_
      refine va_get (D := (dC, dI)) (ci := 4) (v := .ref (q 18)) (C := RX4) (T := TX4) (N := 2) hx hb hts (by decide +kernel) hown hK hP 0 rfl rfl 0 (by decide) (hts (.fieldLink RX4 9 "AchromatDesk$PlateSet" "radii" "[I") (by decide +kernel)) (fun _ h9 => h9) rfl dX4_nearestTo_17 ?_
      refine lv_iload hx hb dX4_nearestTo_20 (lv_at hl 0 rfl) ?_
      refine ar_iald hx hb hK hP 1 0 rfl rfl k7 rfl (by omega) (by omega) dX4_nearestTo_22 ?_
      refine lv_i2l (v := (rd k7).toInt64) hx hb dX4_nearestTo_23 rfl ?_
      refine lv_iload_n hx hb dX4_nearestTo_24 rfl (lv_at hl 4 rfl) ?_
      refine lv_i2l (v := r.toInt64) hx hb dX4_nearestTo_25 rfl ?_
      refine lv_lsub hx hb dX4_nearestTo_26 ?_
      refine va_mabs_long hx hb (by rw [hml]; exact hl.1.symm) hown (hts (.methodLink RX4 19 Lib.MathLoose.abs_long.x) (by decide +kernel)) (hts (.static Lib.MathLoose.abs_long.x) (by decide +kernel)) (hts (.initialized "java/lang/Math") (by decide +kernel)) (hts (.code Lib.MathLoose.abs_long.x Lib.MathLoose.abs_long.code 2 (some .long)) (by decide +kernel)) (Nat.le_of_ble_eq_true rfl) (Nat.le_of_ble_eq_true rfl) (Nat.zero_le _) (Nat.zero_le _) dX4_nearestTo_27 ?_
      refine lv_lstore (lv' := [(6, .long (labs ((rd k7).toInt64 - r.toInt64))), (5, .int (nI k7)), (3, .long z7.2), (2, .int z7.1), (0, .ref (q 17)), (1, .int r)]) hx hb dX4_nearestTo_30 hl (by decide) rfl (fun ls hl => ?_)
      refine rjoin (nL := 9) 71 [(6, .long (labs ((rd k7).toInt64 - r.toInt64))), (5, .int (nI k7)), (3, .long z7.2), (2, .int z7.1), (0, .ref (q 17)), (1, .int r)] [.int (if z7.1 < 0 ∨ labs ((rd k7).toInt64 - r.toInt64) < z7.2 ∨ (labs ((rd k7).toInt64 - r.toInt64) = z7.2 ∧ rd k7 < rd (ix z7.1)) then 1 else 0)] (fun ls hl => ?_) (fun hj71 => ?_)
      · refine lv_istore (lv' := [(8, .int (if z7.1 < 0 ∨ labs ((rd k7).toInt64 - r.toInt64) < z7.2 ∨ (labs ((rd k7).toInt64 - r.toInt64) = z7.2 ∧ rd k7 < rd (ix z7.1)) then 1 else 0)), (6, .long (labs ((rd k7).toInt64 - r.toInt64))), (5, .int (nI k7)), (3, .long z7.2), (2, .int z7.1), (0, .ref (q 17)), (1, .int r)]) hx hb dX4_nearestTo_71 hl (by decide) rfl (fun ls hl => ?_)
        refine lv_iload hx hb dX4_nearestTo_73 (lv_at hl 0 rfl) ?_
        refine rb_eq (tgt := 84) hx hb dX4_nearestTo_75 (by decide) (fun h75 => ?_) (fun h75 => ?_)
        · refine lv_iinc (v := nI (k7 + 1)) (lv' := [(5, .int (nI (k7 + 1))), (8, .int (if z7.1 < 0 ∨ labs ((rd k7).toInt64 - r.toInt64) < z7.2 ∨ (labs ((rd k7).toInt64 - r.toInt64) = z7.2 ∧ rd k7 < rd (ix z7.1)) then 1 else 0)), (6, .long (labs ((rd k7).toInt64 - r.toInt64))), (3, .long z7.2), (2, .int z7.1), (0, .ref (q 17)), (1, .int r)]) hx hb dX4_nearestTo_84 hl (k := 2) rfl (by first | rfl | exact nI_add _ _) (by decide) rfl (fun ls hl => ?_)
          refine lv_goto (tgt := 7) hx hb dX4_nearestTo_87 (by decide) ?_
          exact ih7 z7 ((if_neg h75).symm) (hI7.imp id (fun ⟨j, h1, h2⟩ => ⟨j, by omega, h2⟩)) ls (lv_sub hl [0, 3, 4, 5, 6] rfl)
        · refine lv_iload hx hb dX4_nearestTo_78 (lv_at hl 2 rfl) ?_
          refine lv_istore_n (lv' := [(2, .int (nI k7)), (8, .int (if z7.1 < 0 ∨ labs ((rd k7).toInt64 - r.toInt64) < z7.2 ∨ (labs ((rd k7).toInt64 - r.toInt64) = z7.2 ∧ rd k7 < rd (ix z7.1)) then 1 else 0)), (6, .long (labs ((rd k7).toInt64 - r.toInt64))), (5, .int (nI k7)), (3, .long z7.2), (0, .ref (q 17)), (1, .int r)]) hx hb dX4_nearestTo_80 rfl hl (by decide) rfl (fun ls hl => ?_)
          refine lv_lload hx hb dX4_nearestTo_81 (lv_at hl 2 rfl) ?_
          refine lv_lstore_n (lv' := [(3, .long (labs ((rd k7).toInt64 - r.toInt64))), (2, .int (nI k7)), (8, .int (if z7.1 < 0 ∨ labs ((rd k7).toInt64 - r.toInt64) < z7.2 ∨ (labs ((rd k7).toInt64 - r.toInt64) = z7.2 ∧ rd k7 < rd (ix z7.1)) then 1 else 0)), (6, .long (labs ((rd k7).toInt64 - r.toInt64))), (5, .int (nI k7)), (0, .ref (q 17)), (1, .int r)]) hx hb dX4_nearestTo_83 rfl hl (by decide) rfl (fun ls hl => ?_)
          refine lv_iinc (v := nI (k7 + 1)) (lv' := [(5, .int (nI (k7 + 1))), (3, .long (labs ((rd k7).toInt64 - r.toInt64))), (2, .int (nI k7)), (8, .int (if z7.1 < 0 ∨ labs ((rd k7).toInt64 - r.toInt64) < z7.2 ∨ (labs ((rd k7).toInt64 - r.toInt64) = z7.2 ∧ rd k7 < rd (ix z7.1)) then 1 else 0)), (6, .long (labs ((rd k7).toInt64 - r.toInt64))), (0, .ref (q 17)), (1, .int r)]) hx hb dX4_nearestTo_84 hl (k := 4) rfl (by first | rfl | exact nI_add _ _) (by decide) rfl (fun ls hl => ?_)
          refine lv_goto (tgt := 7) hx hb dX4_nearestTo_87 (by decide) ?_
          exact ih7 (nI k7, labs ((rd k7).toInt64 - r.toInt64)) ((if_pos h75).symm) (Or.inr ⟨k7, by omega, rfl⟩) ls (lv_sub hl [0, 1, 2, 5, 6] rfl)
      · refine lv_iload_n hx hb dX4_nearestTo_32 rfl (lv_at hl 3 rfl) ?_
        refine lv_if_lt (tgt := 66) hx hb dX4_nearestTo_33 (by decide) (fun h33 => ?_) (fun h33 => ?_)
        · refine lv_iconst (v := 1) hx hb dX4_nearestTo_66 (by decide) ?_
          refine lv_goto (tgt := 71) hx hb dX4_nearestTo_67 (by decide) ?_
          refine rw_topi (show (1 : Int32) = (if z7.1 < 0 ∨ labs ((rd k7).toInt64 - r.toInt64) < z7.2 ∨ (labs ((rd k7).toInt64 - r.toInt64) = z7.2 ∧ rd k7 < rd (ix z7.1)) then 1 else 0 : Int32) from (if_pos (Or.inl h33)).symm) ?_
          exact hj71 ls (lv_sub hl [0, 1, 2, 3, 4, 5] rfl)
        · obtain ⟨j7, hj7, ej7⟩ := hI7.resolve_left h33
          refine lv_lload hx hb dX4_nearestTo_36 (lv_at hl 0 rfl) ?_
          refine lv_lload_n hx hb dX4_nearestTo_38 rfl (lv_at hl 2 rfl) ?_
          refine rl_iflt (tgt := 66) hx hb dX4_nearestTo_39 dX4_nearestTo_40 (by decide) (fun h39 => ?_) (fun h39 => ?_)
          · refine lv_iconst (v := 1) hx hb dX4_nearestTo_66 (by decide) ?_
            refine lv_goto (tgt := 71) hx hb dX4_nearestTo_67 (by decide) ?_
            refine rw_topi (show (1 : Int32) = (if z7.1 < 0 ∨ labs ((rd k7).toInt64 - r.toInt64) < z7.2 ∨ (labs ((rd k7).toInt64 - r.toInt64) = z7.2 ∧ rd k7 < rd (ix z7.1)) then 1 else 0 : Int32) from (if_pos (Or.inr (Or.inl h39))).symm) ?_
            exact hj71 ls (lv_sub hl [0, 1, 2, 3, 4, 5] rfl)
          · refine lv_lload hx hb dX4_nearestTo_43 (lv_at hl 0 rfl) ?_
            refine lv_lload_n hx hb dX4_nearestTo_45 rfl (lv_at hl 2 rfl) ?_
            refine rl_ifne (tgt := 70) hx hb dX4_nearestTo_46 dX4_nearestTo_47 (by decide) (fun h46 => ?_) (fun h46 => ?_)
            · refine lv_iconst (v := 0) hx hb dX4_nearestTo_70 (by decide) ?_
              refine rw_topi (show (0 : Int32) = (if z7.1 < 0 ∨ labs ((rd k7).toInt64 - r.toInt64) < z7.2 ∨ (labs ((rd k7).toInt64 - r.toInt64) = z7.2 ∧ rd k7 < rd (ix z7.1)) then 1 else 0 : Int32) from (if_neg (fun w => w.elim h33 (fun w => w.elim h39 (fun w => h46 w.1)))).symm) ?_
              exact hj71 ls (lv_sub hl [0, 1, 2, 3, 4, 5] rfl)
            · refine lv_aload_n hx hb dX4_nearestTo_50 rfl (lv_at hl 4 rfl) ?_
              refine va_get (D := (dC, dI)) (ci := 4) (v := .ref (q 18)) (C := RX4) (T := TX4) (N := 2) hx hb hts (by decide +kernel) hown hK hP 0 rfl rfl 0 (by decide) (hts (.fieldLink RX4 9 "AchromatDesk$PlateSet" "radii" "[I") (by decide +kernel)) (fun _ h9 => h9) rfl dX4_nearestTo_51 ?_
              refine lv_iload hx hb dX4_nearestTo_54 (lv_at hl 1 rfl) ?_
              refine ar_iald hx hb hK hP 1 0 rfl rfl k7 rfl (by omega) (by omega) dX4_nearestTo_56 ?_
              refine lv_aload_n hx hb dX4_nearestTo_57 rfl (lv_at hl 4 rfl) ?_
              refine va_get (D := (dC, dI)) (ci := 4) (v := .ref (q 18)) (C := RX4) (T := TX4) (N := 2) hx hb hts (by decide +kernel) hown hK hP 0 rfl rfl 0 (by decide) (hts (.fieldLink RX4 9 "AchromatDesk$PlateSet" "radii" "[I") (by decide +kernel)) (fun _ h9 => h9) rfl dX4_nearestTo_58 ?_
              refine lv_iload_n hx hb dX4_nearestTo_61 rfl (lv_at hl 3 rfl) ?_
              refine ar_iald hx hb hK hP 1 0 rfl rfl j7 ej7 (by omega) (by omega) dX4_nearestTo_62 ?_
              refine rw_topi (show (rd j7 : Int32) = (rd (ix z7.1) : Int32) from by rw [ej7, ix_nI (by omega)]) ?_
              refine lv_icmp_ge (tgt := 70) hx hb dX4_nearestTo_63 (by decide) (fun h63 => ?_) (fun h63 => ?_)
              · refine lv_iconst (v := 0) hx hb dX4_nearestTo_70 (by decide) ?_
                refine rw_topi (show (0 : Int32) = (if z7.1 < 0 ∨ labs ((rd k7).toInt64 - r.toInt64) < z7.2 ∨ (labs ((rd k7).toInt64 - r.toInt64) = z7.2 ∧ rd k7 < rd (ix z7.1)) then 1 else 0 : Int32) from (if_neg (fun w => w.elim h33 (fun w => w.elim h39 (fun w => absurd w.2 (Int32.not_lt.mpr h63))))).symm) ?_
                exact hj71 ls (lv_sub hl [0, 1, 2, 3, 4, 5] rfl)
              · refine lv_iconst (v := 1) hx hb dX4_nearestTo_66 (by decide) ?_
                refine lv_goto (tgt := 71) hx hb dX4_nearestTo_67 (by decide) ?_
                refine rw_topi (show (1 : Int32) = (if z7.1 < 0 ∨ labs ((rd k7).toInt64 - r.toInt64) < z7.2 ∨ (labs ((rd k7).toInt64 - r.toInt64) = z7.2 ∧ rd k7 < rd (ix z7.1)) then 1 else 0 : Int32) from (if_pos (Or.inr (Or.inr ⟨h46, Int32.not_le.mp h63⟩))).symm) ?_
                exact hj71 ls (lv_sub hl [0, 1, 2, 3, 4, 5] rfl)
  · refine lv_iload hx hb dX4_nearestTo_7 (lv_at hl 0 rfl) ?_
    refine lv_aload_n hx hb dX4_nearestTo_9 rfl (lv_at hl 3 rfl) ?_
    refine va_get (D := (dC, dI)) (ci := 4) (v := .int (nI np)) (C := RX4) (T := TX4) (N := 2) hx hb hts (by decide +kernel) hown hK hP 0 rfl rfl 1 (by decide) (hts (.fieldLink RX4 15 "AchromatDesk$PlateSet" "count" "I") (by decide +kernel)) (fun _ h9 => h9) rfl dX4_nearestTo_10 ?_
    refine rn_ge (tgt := 90) hx hb np np rfl rfl (by omega) (by omega) dX4_nearestTo_13 (by decide) (fun h13 => ?_) (fun h13 => ?_)
    · refine lv_iload_n hx hb dX4_nearestTo_90 rfl (lv_at hl 2 rfl) ?_
      exact W.iret hx hb hr (fun t ht hW => ⟨_, rfl, by rw [hz7]; rfl, ht⟩) (fun _ h => absurd h List.not_mem_nil) dX4_nearestTo_91
    · exfalso; omega
