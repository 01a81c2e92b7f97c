set_option maxHeartbeats 4000000 in
set_option maxRecDepth 100000 in
theorem c_X6_floor (l : Launch) (x y : Int64) (hy : ¬ y = 0) : Met l yX6_floor wsX6_floor ({ frames := 0, cells := 0, slots := 0, locals := 0 }) (va_Pc [.long x, .long y] (fun _ => True)) (vp_Sl (fun r => r = fq x y)) 0 0 (fun _ => False) := by
  refine Met.ofW (cc := cX6_floor) (maxL := 6) (ret := (some .long)) (by decide) rfl ?_
  intro p e s m args below meth c s₁ B hml hv
  obtain ⟨rfl, -⟩ := hv
  have hx := B.exec
  have hb := B.bytes
  have hr := B.returns
  have hts := atoms_spec (ws := wsX6_floor) B.pre
  have hown : s.vm.findClass RX6 = some m.cls := findClass_of_methodNamed B.named
  have hlocks := B.notSynchronized
  have hl := lv_entry ([.long x, .long y]) (n := 6) (Nat.le_of_ble_eq_true rfl)
  rw [lg_entry_eq]
  generalize (lg_sl ([.long x, .long y]) ++ List.replicate (6 - (lg_sl ([.long x, .long y])).length) Slot.unset).toArray = ls at hl ⊢
  have hl : lv_has ls 6 [(0, .long x), (2, .long y)] := hl
  refine lv_lload_n hx hb dX6_floor_0 rfl (lv_at hl 0 rfl) ?_
  refine lv_lload_n hx hb dX6_floor_1 rfl (lv_at hl 1 rfl) ?_
  refine lv_ldiv hx hb dX6_floor_2 (hy) ?_
  refine lv_lstore (lv' := [(4, .long (x / y)), (0, .long x), (2, .long y)]) hx hb dX6_floor_3 hl (by decide) rfl (fun ls hl => ?_)
  refine lv_lload_n hx hb dX6_floor_5 rfl (lv_at hl 1 rfl) ?_
  refine lv_lload_n hx hb dX6_floor_6 rfl (lv_at hl 2 rfl) ?_
  refine lv_lrem hx hb dX6_floor_7 (hy) ?_
  refine lv_lconst (v := 0) hx hb dX6_floor_8 (by decide) ?_
  refine rl_ifeq (tgt := 45) hx hb dX6_floor_9 dX6_floor_10 (by decide) (fun h9 => ?_) (fun h9 => ?_)
  · refine lv_lload hx hb dX6_floor_45 (lv_at hl 0 rfl) ?_
    exact W.lret hx hb hr (fun t ht hW => ⟨_, rfl, fl_n1 hy h9, ht⟩) (fun _ h => absurd h List.not_mem_nil) dX6_floor_47
  · refine lv_lload_n hx hb dX6_floor_13 rfl (lv_at hl 1 rfl) ?_
    refine lv_lconst (v := 0) hx hb dX6_floor_14 (by decide) ?_
    refine rl_ifge (tgt := 23) hx hb dX6_floor_15 dX6_floor_16 (by decide) (fun h15 => ?_) (fun h15 => ?_)
    · refine lv_iconst (v := 0) hx hb dX6_floor_23 (by decide) ?_
      refine lv_lload_n hx hb dX6_floor_24 rfl (lv_at hl 2 rfl) ?_
      refine lv_lconst (v := 0) hx hb dX6_floor_25 (by decide) ?_
      refine rl_ifge (tgt := 34) hx hb dX6_floor_26 dX6_floor_27 (by decide) (fun h26 => ?_) (fun h26 => ?_)
      · refine lv_iconst (v := 0) hx hb dX6_floor_34 (by decide) ?_
        refine rn_eq (tgt := 45) hx hb 0 0 rfl rfl (by omega) (by omega) dX6_floor_35 (by decide) (fun h35 => ?_) (fun h35 => ?_)
        · refine lv_lload hx hb dX6_floor_45 (lv_at hl 0 rfl) ?_
          exact W.lret hx hb hr (fun t ht hW => ⟨_, rfl, fl_n2 hy (by first | exact ⟨fun _ => h26, fun _ => h15⟩ | exact ⟨fun w => absurd w h15, fun w => absurd w h26⟩), ht⟩) (fun _ h => absurd h List.not_mem_nil) dX6_floor_47
        · exact absurd h35 (by decide)
      · refine lv_iconst (v := 1) hx hb dX6_floor_30 (by decide) ?_
        refine lv_goto (tgt := 35) hx hb dX6_floor_31 (by decide) ?_
        refine rn_eq (tgt := 45) hx hb 0 1 rfl rfl (by omega) (by omega) dX6_floor_35 (by decide) (fun h35 => ?_) (fun h35 => ?_)
        · exact absurd h35 (by decide)
        · refine lv_lload hx hb dX6_floor_38 (lv_at hl 0 rfl) ?_
          refine lv_lconst (v := 1) hx hb dX6_floor_40 (by decide) ?_
          refine lv_lsub hx hb dX6_floor_41 ?_
          refine lv_goto (tgt := 47) hx hb dX6_floor_42 (by decide) ?_
          exact W.lret hx hb hr (fun t ht hW => ⟨_, rfl, fl_y hy h9 (by first | exact ⟨fun _ => h26, fun _ => h15⟩ | exact ⟨fun w => absurd w h15, fun w => absurd h26 w⟩), ht⟩) (fun _ h => absurd h List.not_mem_nil) dX6_floor_47
    · refine lv_iconst (v := 1) hx hb dX6_floor_19 (by decide) ?_
      refine lv_goto (tgt := 24) hx hb dX6_floor_20 (by decide) ?_
      refine lv_lload_n hx hb dX6_floor_24 rfl (lv_at hl 2 rfl) ?_
      refine lv_lconst (v := 0) hx hb dX6_floor_25 (by decide) ?_
      refine rl_ifge (tgt := 34) hx hb dX6_floor_26 dX6_floor_27 (by decide) (fun h26 => ?_) (fun h26 => ?_)
      · refine lv_iconst (v := 0) hx hb dX6_floor_34 (by decide) ?_
        refine rn_eq (tgt := 45) hx hb 1 0 rfl rfl (by omega) (by omega) dX6_floor_35 (by decide) (fun h35 => ?_) (fun h35 => ?_)
        · exact absurd h35 (by decide)
        · refine lv_lload hx hb dX6_floor_38 (lv_at hl 0 rfl) ?_
          refine lv_lconst (v := 1) hx hb dX6_floor_40 (by decide) ?_
          refine lv_lsub hx hb dX6_floor_41 ?_
          refine lv_goto (tgt := 47) hx hb dX6_floor_42 (by decide) ?_
          exact W.lret hx hb hr (fun t ht hW => ⟨_, rfl, fl_y hy h9 (by first | exact ⟨fun _ => h26, fun _ => h15⟩ | exact ⟨fun w => absurd w h15, fun w => absurd h26 w⟩), ht⟩) (fun _ h => absurd h List.not_mem_nil) dX6_floor_47
      · refine lv_iconst (v := 1) hx hb dX6_floor_30 (by decide) ?_
        refine lv_goto (tgt := 35) hx hb dX6_floor_31 (by decide) ?_
        refine rn_eq (tgt := 45) hx hb 1 1 rfl rfl (by omega) (by omega) dX6_floor_35 (by decide) (fun h35 => ?_) (fun h35 => ?_)
        · refine lv_lload hx hb dX6_floor_45 (lv_at hl 0 rfl) ?_
          exact W.lret hx hb hr (fun t ht hW => ⟨_, rfl, fl_n2 hy (by first | exact ⟨fun _ => h26, fun _ => h15⟩ | exact ⟨fun w => absurd w h15, fun w => absurd w h26⟩), ht⟩) (fun _ h => absurd h List.not_mem_nil) dX6_floor_47
        · exact absurd h35 (by decide)

set_option maxHeartbeats 4000000 in
set_option maxRecDepth 100000 in
theorem c_X6_isColour (l : Launch) (x : Int32) : Met l yX6_isColour wsX6_isColour ({ frames := 1, cells := 0, slots := 0, locals := 25 }) (va_Pc [.int x] (fun _ => True)) (vp_Si (fun r => r = if isCol x then 1 else 0)) 0 0 (fun _ => False) := by
  refine Met.ofW (cc := cX6_isColour) (maxL := 1) (ret := (some .boolean)) (by decide) rfl ?_
  intro p e s m args below meth c s₁ B hml hv
  obtain ⟨rfl, -⟩ := hv
  have hx := B.exec
  have hb := B.bytes
  have hr := B.returns
  have hts := atoms_spec (ws := wsX6_isColour) B.pre
  have hown : s.vm.findClass RX6 = some m.cls := findClass_of_methodNamed B.named
  have hlocks := B.notSynchronized
  have hl := lv_entry ([.int x]) (n := 1) (Nat.le_of_ble_eq_true rfl)
  rw [lg_entry_eq]
  generalize (lg_sl ([.int x]) ++ List.replicate (1 - (lg_sl ([.int x])).length) Slot.unset).toArray = ls at hl ⊢
  have hl : lv_has ls 1 [(0, .int x)] := hl
  refine lv_iload_n hx hb dX6_isColour_0 rfl (lv_at hl 0 rfl) ?_
  refine lv_i2l (v := x.toInt64) hx hb dX6_isColour_1 rfl ?_
  refine lv_lconst (v := 0) hx hb dX6_isColour_2 (by decide) ?_
  refine lv_ldc2 (v := 2) hx hb hown (hts (.constantLong RX6 46 (2)) (by decide +kernel)) dX6_isColour_3 ?_
  refine stSi (As := [.long x.toInt64, .long 0, .long 2]) (rest := []) (c_X6_within l x.toInt64 0 2) ⟨hx, hb, hml, hown, hts⟩ (va_cwS 3 hts gX6_isColour_X6_within rfl rfl rfl (by decide +kernel) ⟨Nat.le_of_ble_eq_true rfl, Nat.le_of_ble_eq_true rfl⟩) rfl hl.1 rfl (Nat.le_of_ble_eq_true rfl) dX6_isColour_6 ⟨Nat.zero_le _, Nat.zero_le _⟩ (fun r hr0 => ?_)
  subst hr0
  exact W.zret hx hb hr (nb_1 _) (fun t ht hW => ⟨_, rfl, ite_iff (w_iff x 0 2 (by decide) (by decide)), ht⟩) (fun _ h => absurd h List.not_mem_nil) dX6_isColour_9

set_option maxHeartbeats 4000000 in
set_option maxRecDepth 100000 in
theorem c_X6_isMeasured (l : Launch) (x : Int64) : Met l yX6_isMeasured wsX6_isMeasured ({ frames := 1, cells := 0, slots := 0, locals := 25 }) (va_Pc [.long x] (fun _ => True)) (vp_Si (fun r => r = if isMea x then 1 else 0)) 0 0 (fun _ => False) := by
  refine Met.ofW (cc := cX6_isMeasured) (maxL := 2) (ret := (some .boolean)) (by decide) rfl ?_
  intro p e s m args below meth c s₁ B hml hv
  obtain ⟨rfl, -⟩ := hv
  have hx := B.exec
  have hb := B.bytes
  have hr := B.returns
  have hts := atoms_spec (ws := wsX6_isMeasured) B.pre
  have hown : s.vm.findClass RX6 = some m.cls := findClass_of_methodNamed B.named
  have hlocks := B.notSynchronized
  have hl := lv_entry ([.long x]) (n := 2) (Nat.le_of_ble_eq_true rfl)
  rw [lg_entry_eq]
  generalize (lg_sl ([.long x]) ++ List.replicate (2 - (lg_sl ([.long x])).length) Slot.unset).toArray = ls at hl ⊢
  have hl : lv_has ls 2 [(0, .long x)] := hl
  refine lv_lload_n hx hb dX6_isMeasured_0 rfl (lv_at hl 0 rfl) ?_
  refine lv_ldc2 (v := (-1000000000000)) hx hb hown (hts (.constantLong RX6 232 (-1000000000000)) (by decide +kernel)) dX6_isMeasured_1 ?_
  refine lv_ldc2 (v := 1000000000000) hx hb hown (hts (.constantLong RX6 234 (1000000000000)) (by decide +kernel)) dX6_isMeasured_4 ?_
  refine stSi (As := [.long x, .long (-1000000000000), .long 1000000000000]) (rest := []) (c_X6_within l x (-1000000000000) 1000000000000) ⟨hx, hb, hml, hown, hts⟩ (va_cwS 3 hts gX6_isMeasured_X6_within rfl rfl rfl (by decide +kernel) ⟨Nat.le_of_ble_eq_true rfl, Nat.le_of_ble_eq_true rfl⟩) rfl hl.1 rfl (Nat.le_of_ble_eq_true rfl) dX6_isMeasured_7 ⟨Nat.zero_le _, Nat.zero_le _⟩ (fun r hr0 => ?_)
  subst hr0
  exact W.zret hx hb hr (nb_1 _) (fun t ht hW => ⟨_, rfl, rfl, ht⟩) (fun _ h => absurd h List.not_mem_nil) dX6_isMeasured_10

set_option maxHeartbeats 4000000 in
set_option maxRecDepth 100000 in
theorem c_X6_isGlass (l : Launch) (dC : Nat → ClassId) (dI : Nat → Nat → Nat) (cI cJ : ClassId) (a : Nat → Nat) (bf : Nat → Int32) (ln : Nat) (hln : ln ≤ 28) (G : GL) (n : Nat) (hn : n ≤ 20) (lg lp : Nat → Int32) (k : Nat) (hk : k ≤ 8) (rd : Nat → Int32) (np : Nat) (hp : np ≤ 16) (M : MS) (hG : gOK G n) (hL : lOK lg k n) (hR : rOK rd np) (x : Int32) : Met l yX6_isGlass wsX6_isGlass ({ frames := 1, cells := 0, slots := 0, locals := 25 }) (va_Pc [.ref (a 0), .int x] (RO (dC, dI) (tyK cI cJ) ([(a 0, .inr (6, [.int (nI ln), .ref (a 1), .int (nI n), .ref (a 2), .ref (a 3), .int (nI k), .ref (a 4), .ref (a 5), .int (nI np), .ref (a 6), .long M.1, .ref (a 7), .int M.2.1, .int M.2.2.1, .int M.2.2.2.1, .int M.2.2.2.2.1, .ref (a 8), .long M.2.2.2.2.2.1])), (a 1, .inl (cI, 28, .inl bf)), (a 2, .inl (cJ, 20, .inr (.inl (gK G)))), (a 3, .inl (cI, 60, .inl (ilv G))), (a 4, .inl (cI, 8, .inl lg)), (a 5, .inl (cI, 8, .inl lp)), (a 6, .inl (cI, 16, .inl rd)), (a 7, .inl (cI, 3, .inl M.2.2.2.2.2.2.1)), (a 8, .inl (cJ, 3, .inr (.inl M.2.2.2.2.2.2.2)))]))) (vp_Si (fun r => r = if hasP x n then 1 else 0)) 0 0 (fun _ => False) := by
  refine Met.ofW (cc := cX6_isGlass) (maxL := 2) (ret := (some .boolean)) (by decide) rfl ?_
  intro p e s m args below meth c s₁ B hml hv
  obtain ⟨rfl, hP, hK, hN⟩ := hv
  have hx := B.exec
  have hb := B.bytes
  have hr := B.returns
  have hts := atoms_spec (ws := wsX6_isGlass) B.pre
  have hown : s.vm.findClass RX6 = some m.cls := findClass_of_methodNamed B.named
  have hlocks := B.notSynchronized
  have hP : va_P (dC, dI) vwCl [(a 0, .inr (6, [.int (nI ln), .ref (a 1), .int (nI n), .ref (a 2), .ref (a 3), .int (nI k), .ref (a 4), .ref (a 5), .int (nI np), .ref (a 6), .long M.1, .ref (a 7), .int M.2.1, .int M.2.2.1, .int M.2.2.2.1, .int M.2.2.2.2.1, .ref (a 8), .long M.2.2.2.2.2.1])), (a 1, .inl (cI, 28, .inl bf)), (a 2, .inl (cJ, 20, .inr (.inl (gK G)))), (a 3, .inl (cI, 60, .inl (ilv G))), (a 4, .inl (cI, 8, .inl lg)), (a 5, .inl (cI, 8, .inl lp)), (a 6, .inl (cI, 16, .inl rd)), (a 7, .inl (cI, 3, .inl M.2.2.2.2.2.2.1)), (a 8, .inl (cJ, 3, .inr (.inl M.2.2.2.2.2.2.2)))] s.heap := hP
  have hl := lv_entry ([.ref (a 0), .int x]) (n := 2) (Nat.le_of_ble_eq_true rfl)
  rw [lg_entry_eq]
  generalize (lg_sl ([.ref (a 0), .int x]) ++ List.replicate (2 - (lg_sl ([.ref (a 0), .int x])).length) Slot.unset).toArray = ls at hl ⊢
  have hl : lv_has ls 2 [(0, .ref (a 0)), (1, .int x)] := hl
  refine lv_iload_n hx hb dX6_isGlass_0 rfl (lv_at hl 1 rfl) ?_
  refine lv_i2l (v := x.toInt64) hx hb dX6_isGlass_1 rfl ?_
  refine lv_lconst (v := 0) hx hb dX6_isGlass_2 (by decide) ?_
  refine lv_aload_n hx hb dX6_isGlass_3 rfl (lv_at hl 0 rfl) ?_
  refine va_get (D := (dC, dI)) (ci := 6) (v := .int (nI n)) (C := RX6) (T := TX6) (N := 18) hx hb hts (by decide +kernel) hown hK hP 0 rfl rfl 2 (by decide) (hts (.fieldLink RX6 35 "AchromatDeskModel" "glasses" "I") (by decide +kernel)) (fun _ h9 => h9) rfl dX6_isGlass_4 ?_
  refine lv_iconst (v := 1) hx hb dX6_isGlass_7 (by decide) ?_
  refine lv_isub hx hb dX6_isGlass_8 ?_
  refine lv_i2l (v := ((nI n) - 1).toInt64) hx hb dX6_isGlass_9 rfl ?_
  refine stSi (As := [.long x.toInt64, .long 0, .long (((nI n) - 1).toInt64)]) (rest := []) (c_X6_within l x.toInt64 0 (((nI n) - 1).toInt64)) ⟨hx, hb, hml, hown, hts⟩ (va_cwS 3 hts gX6_isGlass_X6_within rfl rfl rfl (by decide +kernel) ⟨Nat.le_of_ble_eq_true rfl, Nat.le_of_ble_eq_true rfl⟩) rfl hl.1 rfl (Nat.le_of_ble_eq_true rfl) dX6_isGlass_10 ⟨Nat.zero_le _, Nat.zero_le _⟩ (fun r hr0 => ?_)
  subst hr0
  exact W.zret hx hb hr (nb_1 _) (fun t ht hW => ⟨_, rfl, ite_iff (w_glass x (by omega)), ht⟩) (fun _ h => absurd h List.not_mem_nil) dX6_isGlass_13

set_option maxHeartbeats 4000000 in
set_option maxRecDepth 100000 in
theorem c_X6_isLens (l : Launch) (dC : Nat → ClassId) (dI : Nat → Nat → Nat) (cI cJ : ClassId) (a : Nat → Nat) (bf : Nat → Int32) (ln : Nat) (hln : ln ≤ 28) (G : GL) (n : Nat) (hn : n ≤ 20) (lg lp : Nat → Int32) (k : Nat) (hk : k ≤ 8) (rd : Nat → Int32) (np : Nat) (hp : np ≤ 16) (M : MS) (hG : gOK G n) (hL : lOK lg k n) (hR : rOK rd np) (x : Int32) : Met l yX6_isLens wsX6_isLens ({ frames := 1, cells := 0, slots := 0, locals := 25 }) (va_Pc [.ref (a 0), .int x] (RO (dC, dI) (tyK cI cJ) ([(a 0, .inr (6, [.int (nI ln), .ref (a 1), .int (nI n), .ref (a 2), .ref (a 3), .int (nI k), .ref (a 4), .ref (a 5), .int (nI np), .ref (a 6), .long M.1, .ref (a 7), .int M.2.1, .int M.2.2.1, .int M.2.2.2.1, .int M.2.2.2.2.1, .ref (a 8), .long M.2.2.2.2.2.1])), (a 1, .inl (cI, 28, .inl bf)), (a 2, .inl (cJ, 20, .inr (.inl (gK G)))), (a 3, .inl (cI, 60, .inl (ilv G))), (a 4, .inl (cI, 8, .inl lg)), (a 5, .inl (cI, 8, .inl lp)), (a 6, .inl (cI, 16, .inl rd)), (a 7, .inl (cI, 3, .inl M.2.2.2.2.2.2.1)), (a 8, .inl (cJ, 3, .inr (.inl M.2.2.2.2.2.2.2)))]))) (vp_Si (fun r => r = if hasP x k then 1 else 0)) 0 0 (fun _ => False) := by
  refine Met.ofW (cc := cX6_isLens) (maxL := 2) (ret := (some .boolean)) (by decide) rfl ?_
  intro p e s m args below meth c s₁ B hml hv
  obtain ⟨rfl, hP, hK, hN⟩ := hv
  have hx := B.exec
  have hb := B.bytes
  have hr := B.returns
  have hts := atoms_spec (ws := wsX6_isLens) B.pre
  have hown : s.vm.findClass RX6 = some m.cls := findClass_of_methodNamed B.named
  have hlocks := B.notSynchronized
  have hP : va_P (dC, dI) vwCl [(a 0, .inr (6, [.int (nI ln), .ref (a 1), .int (nI n), .ref (a 2), .ref (a 3), .int (nI k), .ref (a 4), .ref (a 5), .int (nI np), .ref (a 6), .long M.1, .ref (a 7), .int M.2.1, .int M.2.2.1, .int M.2.2.2.1, .int M.2.2.2.2.1, .ref (a 8), .long M.2.2.2.2.2.1])), (a 1, .inl (cI, 28, .inl bf)), (a 2, .inl (cJ, 20, .inr (.inl (gK G)))), (a 3, .inl (cI, 60, .inl (ilv G))), (a 4, .inl (cI, 8, .inl lg)), (a 5, .inl (cI, 8, .inl lp)), (a 6, .inl (cI, 16, .inl rd)), (a 7, .inl (cI, 3, .inl M.2.2.2.2.2.2.1)), (a 8, .inl (cJ, 3, .inr (.inl M.2.2.2.2.2.2.2)))] s.heap := hP
  have hl := lv_entry ([.ref (a 0), .int x]) (n := 2) (Nat.le_of_ble_eq_true rfl)
  rw [lg_entry_eq]
  generalize (lg_sl ([.ref (a 0), .int x]) ++ List.replicate (2 - (lg_sl ([.ref (a 0), .int x])).length) Slot.unset).toArray = ls at hl ⊢
  have hl : lv_has ls 2 [(0, .ref (a 0)), (1, .int x)] := hl
  refine lv_iload_n hx hb dX6_isLens_0 rfl (lv_at hl 1 rfl) ?_
  refine lv_i2l (v := x.toInt64) hx hb dX6_isLens_1 rfl ?_
  refine lv_lconst (v := 0) hx hb dX6_isLens_2 (by decide) ?_
  refine lv_aload_n hx hb dX6_isLens_3 rfl (lv_at hl 0 rfl) ?_
  refine va_get (D := (dC, dI)) (ci := 6) (v := .int (nI k)) (C := RX6) (T := TX6) (N := 18) hx hb hts (by decide +kernel) hown hK hP 0 rfl rfl 5 (by decide) (hts (.fieldLink RX6 43 "AchromatDeskModel" "lenses" "I") (by decide +kernel)) (fun _ h9 => h9) rfl dX6_isLens_4 ?_
  refine lv_iconst (v := 1) hx hb dX6_isLens_7 (by decide) ?_
  refine lv_isub hx hb dX6_isLens_8 ?_
  refine lv_i2l (v := ((nI k) - 1).toInt64) hx hb dX6_isLens_9 rfl ?_
  refine stSi (As := [.long x.toInt64, .long 0, .long (((nI k) - 1).toInt64)]) (rest := []) (c_X6_within l x.toInt64 0 (((nI k) - 1).toInt64)) ⟨hx, hb, hml, hown, hts⟩ (va_cwS 3 hts gX6_isLens_X6_within rfl rfl rfl (by decide +kernel) ⟨Nat.le_of_ble_eq_true rfl, Nat.le_of_ble_eq_true rfl⟩) rfl hl.1 rfl (Nat.le_of_ble_eq_true rfl) dX6_isLens_10 ⟨Nat.zero_le _, Nat.zero_le _⟩ (fun r hr0 => ?_)
  subst hr0
  exact W.zret hx hb hr (nb_1 _) (fun t ht hW => ⟨_, rfl, ite_iff (w_glass x (by omega)), ht⟩) (fun _ h => absurd h List.not_mem_nil) dX6_isLens_13

set_option maxHeartbeats 4000000 in
set_option maxRecDepth 100000 in
theorem c_X6_a (l : Launch) (dC : Nat → ClassId) (dI : Nat → Nat → Nat) (cI cJ : ClassId) (a : Nat → Nat) (bf : Nat → Int32) (ln : Nat) (hln : ln ≤ 28) (G : GL) (n : Nat) (hn : n ≤ 20) (lg lp : Nat → Int32) (k : Nat) (hk : k ≤ 8) (rd : Nat → Int32) (np : Nat) (hp : np ≤ 16) (M : MS) (hG : gOK G n) (hL : lOK lg k n) (hR : rOK rd np) (g : Nat) (hg : g < n) : Met l yX6_a wsX6_a ({ frames := 0, cells := 0, slots := 0, locals := 0 }) (va_Pc [.ref (a 0), .int (nI g)] (RO (dC, dI) (tyK cI cJ) ([(a 0, .inr (6, [.int (nI ln), .ref (a 1), .int (nI n), .ref (a 2), .ref (a 3), .int (nI k), .ref (a 4), .ref (a 5), .int (nI np), .ref (a 6), .long M.1, .ref (a 7), .int M.2.1, .int M.2.2.1, .int M.2.2.2.1, .int M.2.2.2.2.1, .ref (a 8), .long M.2.2.2.2.2.1])), (a 1, .inl (cI, 28, .inl bf)), (a 2, .inl (cJ, 20, .inr (.inl (gK G)))), (a 3, .inl (cI, 60, .inl (ilv G))), (a 4, .inl (cI, 8, .inl lg)), (a 5, .inl (cI, 8, .inl lp)), (a 6, .inl (cI, 16, .inl rd)), (a 7, .inl (cI, 3, .inl M.2.2.2.2.2.2.1)), (a 8, .inl (cJ, 3, .inr (.inl M.2.2.2.2.2.2.2)))]))) (vp_Sl (fun r => r = vA G g)) 0 0 (fun _ => False) := by
  refine Met.ofW (cc := cX6_a) (maxL := 2) (ret := (some .long)) (by decide) rfl ?_
  intro p e s m args below meth c s₁ B hml hv
  obtain ⟨rfl, hP, hK, hN⟩ := hv
  have hx := B.exec
  have hb := B.bytes
  have hr := B.returns
  have hts := atoms_spec (ws := wsX6_a) B.pre
  have hown : s.vm.findClass RX6 = some m.cls := findClass_of_methodNamed B.named
  have hlocks := B.notSynchronized
  have hP : va_P (dC, dI) vwCl [(a 0, .inr (6, [.int (nI ln), .ref (a 1), .int (nI n), .ref (a 2), .ref (a 3), .int (nI k), .ref (a 4), .ref (a 5), .int (nI np), .ref (a 6), .long M.1, .ref (a 7), .int M.2.1, .int M.2.2.1, .int M.2.2.2.1, .int M.2.2.2.2.1, .ref (a 8), .long M.2.2.2.2.2.1])), (a 1, .inl (cI, 28, .inl bf)), (a 2, .inl (cJ, 20, .inr (.inl (gK G)))), (a 3, .inl (cI, 60, .inl (ilv G))), (a 4, .inl (cI, 8, .inl lg)), (a 5, .inl (cI, 8, .inl lp)), (a 6, .inl (cI, 16, .inl rd)), (a 7, .inl (cI, 3, .inl M.2.2.2.2.2.2.1)), (a 8, .inl (cJ, 3, .inr (.inl M.2.2.2.2.2.2.2)))] s.heap := hP
  have hl := lv_entry ([.ref (a 0), .int (nI g)]) (n := 2) (Nat.le_of_ble_eq_true rfl)
  rw [lg_entry_eq]
  generalize (lg_sl ([.ref (a 0), .int (nI g)]) ++ List.replicate (2 - (lg_sl ([.ref (a 0), .int (nI g)])).length) Slot.unset).toArray = ls at hl ⊢
  have hl : lv_has ls 2 [(0, .ref (a 0)), (1, .int (nI g))] := hl
  refine lv_aload_n hx hb dX6_a_0 rfl (lv_at hl 0 rfl) ?_
  refine va_get (D := (dC, dI)) (ci := 6) (v := .ref (a 3)) (C := RX6) (T := TX6) (N := 18) hx hb hts (by decide +kernel) hown hK hP 0 rfl rfl 4 (by decide) (hts (.fieldLink RX6 17 "AchromatDeskModel" "indices" "[I") (by decide +kernel)) (fun _ h9 => h9) rfl dX6_a_1 ?_
  refine lv_iconst (v := 3) hx hb dX6_a_4 (by decide) ?_
  refine lv_iload_n hx hb dX6_a_5 rfl (lv_at hl 1 rfl) ?_
  refine lv_imul hx hb dX6_a_6 ?_
  refine rw_topi (pk_mul 3 g) ?_
  refine lv_iconst (v := 1) hx hb dX6_a_7 (by decide) ?_
  refine lv_iadd hx hb dX6_a_8 ?_
  refine rw_topi (nI_add (3 * g) 1) ?_
  refine ar_iald hx hb hK hP 3 0 rfl rfl ((3 * g) + 1) rfl (by omega) (by omega) dX6_a_9 ?_
  refine rw_topi (show ((ilv G) ((3 * g) + 1) : Int32) = (gD G g : Int32) from ilv_1 G g) ?_
  refine lv_ldc (v := 100000) hx hb hown (hts (.constant RX6 48 (100000)) (by decide +kernel)) dX6_a_10 ?_
  refine lv_isub hx hb dX6_a_12 ?_
  refine lv_i2l (v := ((gD G g) - 100000).toInt64) hx hb dX6_a_13 rfl ?_
  exact W.lret hx hb hr (fun t ht hW => ⟨_, rfl, rfl, ht⟩) (fun _ h => absurd h List.not_mem_nil) dX6_a_14

set_option maxHeartbeats 4000000 in
set_option maxRecDepth 100000 in
theorem c_X6_b (l : Launch) (dC : Nat → ClassId) (dI : Nat → Nat → Nat) (cI cJ : ClassId) (a : Nat → Nat) (bf : Nat → Int32) (ln : Nat) (hln : ln ≤ 28) (G : GL) (n : Nat) (hn : n ≤ 20) (lg lp : Nat → Int32) (k : Nat) (hk : k ≤ 8) (rd : Nat → Int32) (np : Nat) (hp : np ≤ 16) (M : MS) (hG : gOK G n) (hL : lOK lg k n) (hR : rOK rd np) (g : Nat) (hg : g < n) : Met l yX6_b wsX6_b ({ frames := 0, cells := 0, slots := 0, locals := 0 }) (va_Pc [.ref (a 0), .int (nI g)] (RO (dC, dI) (tyK cI cJ) ([(a 0, .inr (6, [.int (nI ln), .ref (a 1), .int (nI n), .ref (a 2), .ref (a 3), .int (nI k), .ref (a 4), .ref (a 5), .int (nI np), .ref (a 6), .long M.1, .ref (a 7), .int M.2.1, .int M.2.2.1, .int M.2.2.2.1, .int M.2.2.2.2.1, .ref (a 8), .long M.2.2.2.2.2.1])), (a 1, .inl (cI, 28, .inl bf)), (a 2, .inl (cJ, 20, .inr (.inl (gK G)))), (a 3, .inl (cI, 60, .inl (ilv G))), (a 4, .inl (cI, 8, .inl lg)), (a 5, .inl (cI, 8, .inl lp)), (a 6, .inl (cI, 16, .inl rd)), (a 7, .inl (cI, 3, .inl M.2.2.2.2.2.2.1)), (a 8, .inl (cJ, 3, .inr (.inl M.2.2.2.2.2.2.2)))]))) (vp_Sl (fun r => r = vB G g)) 0 0 (fun _ => False) := by
  refine Met.ofW (cc := cX6_b) (maxL := 2) (ret := (some .long)) (by decide) rfl ?_
  intro p e s m args below meth c s₁ B hml hv
  obtain ⟨rfl, hP, hK, hN⟩ := hv
  have hx := B.exec
  have hb := B.bytes
  have hr := B.returns
  have hts := atoms_spec (ws := wsX6_b) B.pre
  have hown : s.vm.findClass RX6 = some m.cls := findClass_of_methodNamed B.named
  have hlocks := B.notSynchronized
  have hP : va_P (dC, dI) vwCl [(a 0, .inr (6, [.int (nI ln), .ref (a 1), .int (nI n), .ref (a 2), .ref (a 3), .int (nI k), .ref (a 4), .ref (a 5), .int (nI np), .ref (a 6), .long M.1, .ref (a 7), .int M.2.1, .int M.2.2.1, .int M.2.2.2.1, .int M.2.2.2.2.1, .ref (a 8), .long M.2.2.2.2.2.1])), (a 1, .inl (cI, 28, .inl bf)), (a 2, .inl (cJ, 20, .inr (.inl (gK G)))), (a 3, .inl (cI, 60, .inl (ilv G))), (a 4, .inl (cI, 8, .inl lg)), (a 5, .inl (cI, 8, .inl lp)), (a 6, .inl (cI, 16, .inl rd)), (a 7, .inl (cI, 3, .inl M.2.2.2.2.2.2.1)), (a 8, .inl (cJ, 3, .inr (.inl M.2.2.2.2.2.2.2)))] s.heap := hP
  have hl := lv_entry ([.ref (a 0), .int (nI g)]) (n := 2) (Nat.le_of_ble_eq_true rfl)
  rw [lg_entry_eq]
  generalize (lg_sl ([.ref (a 0), .int (nI g)]) ++ List.replicate (2 - (lg_sl ([.ref (a 0), .int (nI g)])).length) Slot.unset).toArray = ls at hl ⊢
  have hl : lv_has ls 2 [(0, .ref (a 0)), (1, .int (nI g))] := hl
  refine lv_aload_n hx hb dX6_b_0 rfl (lv_at hl 0 rfl) ?_
  refine va_get (D := (dC, dI)) (ci := 6) (v := .ref (a 3)) (C := RX6) (T := TX6) (N := 18) hx hb hts (by decide +kernel) hown hK hP 0 rfl rfl 4 (by decide) (hts (.fieldLink RX6 17 "AchromatDeskModel" "indices" "[I") (by decide +kernel)) (fun _ h9 => h9) rfl dX6_b_1 ?_
  refine lv_iconst (v := 3) hx hb dX6_b_4 (by decide) ?_
  refine lv_iload_n hx hb dX6_b_5 rfl (lv_at hl 1 rfl) ?_
  refine lv_imul hx hb dX6_b_6 ?_
  refine rw_topi (pk_mul 3 g) ?_
  refine ar_iald hx hb hK hP 3 0 rfl rfl (3 * g) rfl (by omega) (by omega) dX6_b_7 ?_
  refine rw_topi (show ((ilv G) (3 * g) : Int32) = (gF G g : Int32) from ilv_0 G g) ?_
  refine lv_aload_n hx hb dX6_b_8 rfl (lv_at hl 0 rfl) ?_
  refine va_get (D := (dC, dI)) (ci := 6) (v := .ref (a 3)) (C := RX6) (T := TX6) (N := 18) hx hb hts (by decide +kernel) hown hK hP 0 rfl rfl 4 (by decide) (hts (.fieldLink RX6 17 "AchromatDeskModel" "indices" "[I") (by decide +kernel)) (fun _ h9 => h9) rfl dX6_b_9 ?_
  refine lv_iconst (v := 3) hx hb dX6_b_12 (by decide) ?_
  refine lv_iload_n hx hb dX6_b_13 rfl (lv_at hl 1 rfl) ?_
  refine lv_imul hx hb dX6_b_14 ?_
  refine rw_topi (pk_mul 3 g) ?_
  refine lv_iconst (v := 2) hx hb dX6_b_15 (by decide) ?_
  refine lv_iadd hx hb dX6_b_16 ?_
  refine rw_topi (nI_add (3 * g) 2) ?_
  refine ar_iald hx hb hK hP 3 0 rfl rfl ((3 * g) + 2) rfl (by omega) (by omega) dX6_b_17 ?_
  refine rw_topi (show ((ilv G) ((3 * g) + 2) : Int32) = (gC G g : Int32) from ilv_2 G g) ?_
  refine lv_isub hx hb dX6_b_18 ?_
  refine lv_i2l (v := ((gF G g) - (gC G g)).toInt64) hx hb dX6_b_19 rfl ?_
  exact W.lret hx hb hr (fun t ht hW => ⟨_, rfl, rfl, ht⟩) (fun _ h => absurd h List.not_mem_nil) dX6_b_20

set_option maxHeartbeats 4000000 in
set_option maxRecDepth 100000 in
theorem c_X6_d (l : Launch) (dC : Nat → ClassId) (dI : Nat → Nat → Nat) (cI cJ : ClassId) (a : Nat → Nat) (bf : Nat → Int32) (ln : Nat) (hln : ln ≤ 28) (G : GL) (n : Nat) (hn : n ≤ 20) (lg lp : Nat → Int32) (k : Nat) (hk : k ≤ 8) (rd : Nat → Int32) (np : Nat) (hp : np ≤ 16) (M : MS) (hG : gOK G n) (hL : lOK lg k n) (hR : rOK rd np) (g : Nat) (hg : g < n) : Met l yX6_d wsX6_d ({ frames := 0, cells := 0, slots := 0, locals := 0 }) (va_Pc [.ref (a 0), .int (nI g)] (RO (dC, dI) (tyK cI cJ) ([(a 0, .inr (6, [.int (nI ln), .ref (a 1), .int (nI n), .ref (a 2), .ref (a 3), .int (nI k), .ref (a 4), .ref (a 5), .int (nI np), .ref (a 6), .long M.1, .ref (a 7), .int M.2.1, .int M.2.2.1, .int M.2.2.2.1, .int M.2.2.2.2.1, .ref (a 8), .long M.2.2.2.2.2.1])), (a 1, .inl (cI, 28, .inl bf)), (a 2, .inl (cJ, 20, .inr (.inl (gK G)))), (a 3, .inl (cI, 60, .inl (ilv G))), (a 4, .inl (cI, 8, .inl lg)), (a 5, .inl (cI, 8, .inl lp)), (a 6, .inl (cI, 16, .inl rd)), (a 7, .inl (cI, 3, .inl M.2.2.2.2.2.2.1)), (a 8, .inl (cJ, 3, .inr (.inl M.2.2.2.2.2.2.2)))]))) (vp_Sl (fun r => r = vD G g)) 0 0 (fun _ => False) := by
  refine Met.ofW (cc := cX6_d) (maxL := 2) (ret := (some .long)) (by decide) rfl ?_
  intro p e s m args below meth c s₁ B hml hv
  obtain ⟨rfl, hP, hK, hN⟩ := hv
  have hx := B.exec
  have hb := B.bytes
  have hr := B.returns
  have hts := atoms_spec (ws := wsX6_d) B.pre
  have hown : s.vm.findClass RX6 = some m.cls := findClass_of_methodNamed B.named
  have hlocks := B.notSynchronized
  have hP : va_P (dC, dI) vwCl [(a 0, .inr (6, [.int (nI ln), .ref (a 1), .int (nI n), .ref (a 2), .ref (a 3), .int (nI k), .ref (a 4), .ref (a 5), .int (nI np), .ref (a 6), .long M.1, .ref (a 7), .int M.2.1, .int M.2.2.1, .int M.2.2.2.1, .int M.2.2.2.2.1, .ref (a 8), .long M.2.2.2.2.2.1])), (a 1, .inl (cI, 28, .inl bf)), (a 2, .inl (cJ, 20, .inr (.inl (gK G)))), (a 3, .inl (cI, 60, .inl (ilv G))), (a 4, .inl (cI, 8, .inl lg)), (a 5, .inl (cI, 8, .inl lp)), (a 6, .inl (cI, 16, .inl rd)), (a 7, .inl (cI, 3, .inl M.2.2.2.2.2.2.1)), (a 8, .inl (cJ, 3, .inr (.inl M.2.2.2.2.2.2.2)))] s.heap := hP
  have hl := lv_entry ([.ref (a 0), .int (nI g)]) (n := 2) (Nat.le_of_ble_eq_true rfl)
  rw [lg_entry_eq]
  generalize (lg_sl ([.ref (a 0), .int (nI g)]) ++ List.replicate (2 - (lg_sl ([.ref (a 0), .int (nI g)])).length) Slot.unset).toArray = ls at hl ⊢
  have hl : lv_has ls 2 [(0, .ref (a 0)), (1, .int (nI g))] := hl
  refine lv_aload_n hx hb dX6_d_0 rfl (lv_at hl 0 rfl) ?_
  refine va_get (D := (dC, dI)) (ci := 6) (v := .ref (a 3)) (C := RX6) (T := TX6) (N := 18) hx hb hts (by decide +kernel) hown hK hP 0 rfl rfl 4 (by decide) (hts (.fieldLink RX6 17 "AchromatDeskModel" "indices" "[I") (by decide +kernel)) (fun _ h9 => h9) rfl dX6_d_1 ?_
  refine lv_iconst (v := 3) hx hb dX6_d_4 (by decide) ?_
  refine lv_iload_n hx hb dX6_d_5 rfl (lv_at hl 1 rfl) ?_
  refine lv_imul hx hb dX6_d_6 ?_
  refine rw_topi (pk_mul 3 g) ?_
  refine ar_iald hx hb hK hP 3 0 rfl rfl (3 * g) rfl (by omega) (by omega) dX6_d_7 ?_
  refine rw_topi (show ((ilv G) (3 * g) : Int32) = (gF G g : Int32) from ilv_0 G g) ?_
  refine lv_aload_n hx hb dX6_d_8 rfl (lv_at hl 0 rfl) ?_
  refine va_get (D := (dC, dI)) (ci := 6) (v := .ref (a 3)) (C := RX6) (T := TX6) (N := 18) hx hb hts (by decide +kernel) hown hK hP 0 rfl rfl 4 (by decide) (hts (.fieldLink RX6 17 "AchromatDeskModel" "indices" "[I") (by decide +kernel)) (fun _ h9 => h9) rfl dX6_d_9 ?_
  refine lv_iconst (v := 3) hx hb dX6_d_12 (by decide) ?_
  refine lv_iload_n hx hb dX6_d_13 rfl (lv_at hl 1 rfl) ?_
  refine lv_imul hx hb dX6_d_14 ?_
  refine rw_topi (pk_mul 3 g) ?_
  refine lv_iconst (v := 1) hx hb dX6_d_15 (by decide) ?_
  refine lv_iadd hx hb dX6_d_16 ?_
  refine rw_topi (nI_add (3 * g) 1) ?_
  refine ar_iald hx hb hK hP 3 0 rfl rfl ((3 * g) + 1) rfl (by omega) (by omega) dX6_d_17 ?_
  refine rw_topi (show ((ilv G) ((3 * g) + 1) : Int32) = (gD G g : Int32) from ilv_1 G g) ?_
  refine lv_isub hx hb dX6_d_18 ?_
  refine lv_i2l (v := ((gF G g) - (gD G g)).toInt64) hx hb dX6_d_19 rfl ?_
  exact W.lret hx hb hr (fun t ht hW => ⟨_, rfl, rfl, ht⟩) (fun _ h => absurd h List.not_mem_nil) dX6_d_20

set_option maxHeartbeats 4000000 in
set_option maxRecDepth 100000 in
theorem c_X6_glassCount (l : Launch) (dC : Nat → ClassId) (dI : Nat → Nat → Nat) (cI cJ : ClassId) (a : Nat → Nat) (bf : Nat → Int32) (ln : Nat) (hln : ln ≤ 28) (G : GL) (n : Nat) (hn : n ≤ 20) (lg lp : Nat → Int32) (k : Nat) (hk : k ≤ 8) (rd : Nat → Int32) (np : Nat) (hp : np ≤ 16) (M : MS) (hG : gOK G n) (hL : lOK lg k n) (hR : rOK rd np)  : Met l yX6_glassCount wsX6_glassCount ({ frames := 0, cells := 0, slots := 0, locals := 0 }) (va_Pc [.ref (a 0)] (RO (dC, dI) (tyK cI cJ) ([(a 0, .inr (6, [.int (nI ln), .ref (a 1), .int (nI n), .ref (a 2), .ref (a 3), .int (nI k), .ref (a 4), .ref (a 5), .int (nI np), .ref (a 6), .long M.1, .ref (a 7), .int M.2.1, .int M.2.2.1, .int M.2.2.2.1, .int M.2.2.2.2.1, .ref (a 8), .long M.2.2.2.2.2.1])), (a 1, .inl (cI, 28, .inl bf)), (a 2, .inl (cJ, 20, .inr (.inl (gK G)))), (a 3, .inl (cI, 60, .inl (ilv G))), (a 4, .inl (cI, 8, .inl lg)), (a 5, .inl (cI, 8, .inl lp)), (a 6, .inl (cI, 16, .inl rd)), (a 7, .inl (cI, 3, .inl M.2.2.2.2.2.2.1)), (a 8, .inl (cJ, 3, .inr (.inl M.2.2.2.2.2.2.2)))]))) (vp_Sl (fun r => r = lN n)) 0 0 (fun _ => False) := by
  refine Met.ofW (cc := cX6_glassCount) (maxL := 1) (ret := (some .long)) (by decide) rfl ?_
  intro p e s m args below meth c s₁ B hml hv
  obtain ⟨rfl, hP, hK, hN⟩ := hv
  have hx := B.exec
  have hb := B.bytes
  have hr := B.returns
  have hts := atoms_spec (ws := wsX6_glassCount) B.pre
  have hown : s.vm.findClass RX6 = some m.cls := findClass_of_methodNamed B.named
  have hlocks := B.notSynchronized
  have hP : va_P (dC, dI) vwCl [(a 0, .inr (6, [.int (nI ln), .ref (a 1), .int (nI n), .ref (a 2), .ref (a 3), .int (nI k), .ref (a 4), .ref (a 5), .int (nI np), .ref (a 6), .long M.1, .ref (a 7), .int M.2.1, .int M.2.2.1, .int M.2.2.2.1, .int M.2.2.2.2.1, .ref (a 8), .long M.2.2.2.2.2.1])), (a 1, .inl (cI, 28, .inl bf)), (a 2, .inl (cJ, 20, .inr (.inl (gK G)))), (a 3, .inl (cI, 60, .inl (ilv G))), (a 4, .inl (cI, 8, .inl lg)), (a 5, .inl (cI, 8, .inl lp)), (a 6, .inl (cI, 16, .inl rd)), (a 7, .inl (cI, 3, .inl M.2.2.2.2.2.2.1)), (a 8, .inl (cJ, 3, .inr (.inl M.2.2.2.2.2.2.2)))] s.heap := hP
  have hl := lv_entry ([.ref (a 0)]) (n := 1) (Nat.le_of_ble_eq_true rfl)
  rw [lg_entry_eq]
  generalize (lg_sl ([.ref (a 0)]) ++ List.replicate (1 - (lg_sl ([.ref (a 0)])).length) Slot.unset).toArray = ls at hl ⊢
  have hl : lv_has ls 1 [(0, .ref (a 0))] := hl
  refine lv_aload_n hx hb dX6_glassCount_0 rfl (lv_at hl 0 rfl) ?_
  refine va_get (D := (dC, dI)) (ci := 6) (v := .int (nI n)) (C := RX6) (T := TX6) (N := 18) hx hb hts (by decide +kernel) hown hK hP 0 rfl rfl 2 (by decide) (hts (.fieldLink RX6 35 "AchromatDeskModel" "glasses" "I") (by decide +kernel)) (fun _ h9 => h9) rfl dX6_glassCount_1 ?_
  refine lv_i2l (v := lN n) hx hb dX6_glassCount_4 (nI_l (by omega)) ?_
  exact W.lret hx hb hr (fun t ht hW => ⟨_, rfl, rfl, ht⟩) (fun _ h => absurd h List.not_mem_nil) dX6_glassCount_5

set_option maxHeartbeats 4000000 in
set_option maxRecDepth 100000 in
theorem c_X6_lensCount (l : Launch) (dC : Nat → ClassId) (dI : Nat → Nat → Nat) (cI cJ : ClassId) (a : Nat → Nat) (bf : Nat → Int32) (ln : Nat) (hln : ln ≤ 28) (G : GL) (n : Nat) (hn : n ≤ 20) (lg lp : Nat → Int32) (k : Nat) (hk : k ≤ 8) (rd : Nat → Int32) (np : Nat) (hp : np ≤ 16) (M : MS) (hG : gOK G n) (hL : lOK lg k n) (hR : rOK rd np)  : Met l yX6_lensCount wsX6_lensCount ({ frames := 0, cells := 0, slots := 0, locals := 0 }) (va_Pc [.ref (a 0)] (RO (dC, dI) (tyK cI cJ) ([(a 0, .inr (6, [.int (nI ln), .ref (a 1), .int (nI n), .ref (a 2), .ref (a 3), .int (nI k), .ref (a 4), .ref (a 5), .int (nI np), .ref (a 6), .long M.1, .ref (a 7), .int M.2.1, .int M.2.2.1, .int M.2.2.2.1, .int M.2.2.2.2.1, .ref (a 8), .long M.2.2.2.2.2.1])), (a 1, .inl (cI, 28, .inl bf)), (a 2, .inl (cJ, 20, .inr (.inl (gK G)))), (a 3, .inl (cI, 60, .inl (ilv G))), (a 4, .inl (cI, 8, .inl lg)), (a 5, .inl (cI, 8, .inl lp)), (a 6, .inl (cI, 16, .inl rd)), (a 7, .inl (cI, 3, .inl M.2.2.2.2.2.2.1)), (a 8, .inl (cJ, 3, .inr (.inl M.2.2.2.2.2.2.2)))]))) (vp_Sl (fun r => r = lN k)) 0 0 (fun _ => False) := by
  refine Met.ofW (cc := cX6_lensCount) (maxL := 1) (ret := (some .long)) (by decide) rfl ?_
  intro p e s m args below meth c s₁ B hml hv
  obtain ⟨rfl, hP, hK, hN⟩ := hv
  have hx := B.exec
  have hb := B.bytes
  have hr := B.returns
  have hts := atoms_spec (ws := wsX6_lensCount) B.pre
  have hown : s.vm.findClass RX6 = some m.cls := findClass_of_methodNamed B.named
  have hlocks := B.notSynchronized
  have hP : va_P (dC, dI) vwCl [(a 0, .inr (6, [.int (nI ln), .ref (a 1), .int (nI n), .ref (a 2), .ref (a 3), .int (nI k), .ref (a 4), .ref (a 5), .int (nI np), .ref (a 6), .long M.1, .ref (a 7), .int M.2.1, .int M.2.2.1, .int M.2.2.2.1, .int M.2.2.2.2.1, .ref (a 8), .long M.2.2.2.2.2.1])), (a 1, .inl (cI, 28, .inl bf)), (a 2, .inl (cJ, 20, .inr (.inl (gK G)))), (a 3, .inl (cI, 60, .inl (ilv G))), (a 4, .inl (cI, 8, .inl lg)), (a 5, .inl (cI, 8, .inl lp)), (a 6, .inl (cI, 16, .inl rd)), (a 7, .inl (cI, 3, .inl M.2.2.2.2.2.2.1)), (a 8, .inl (cJ, 3, .inr (.inl M.2.2.2.2.2.2.2)))] s.heap := hP
  have hl := lv_entry ([.ref (a 0)]) (n := 1) (Nat.le_of_ble_eq_true rfl)
  rw [lg_entry_eq]
  generalize (lg_sl ([.ref (a 0)]) ++ List.replicate (1 - (lg_sl ([.ref (a 0)])).length) Slot.unset).toArray = ls at hl ⊢
  have hl : lv_has ls 1 [(0, .ref (a 0))] := hl
  refine lv_aload_n hx hb dX6_lensCount_0 rfl (lv_at hl 0 rfl) ?_
  refine va_get (D := (dC, dI)) (ci := 6) (v := .int (nI k)) (C := RX6) (T := TX6) (N := 18) hx hb hts (by decide +kernel) hown hK hP 0 rfl rfl 5 (by decide) (hts (.fieldLink RX6 43 "AchromatDeskModel" "lenses" "I") (by decide +kernel)) (fun _ h9 => h9) rfl dX6_lensCount_1 ?_
  refine lv_i2l (v := lN k) hx hb dX6_lensCount_4 (nI_l (by omega)) ?_
  exact W.lret hx hb hr (fun t ht hW => ⟨_, rfl, rfl, ht⟩) (fun _ h => absurd h List.not_mem_nil) dX6_lensCount_5

set_option maxHeartbeats 4000000 in
set_option maxRecDepth 100000 in
theorem c_X6_plateCount (l : Launch) (dC : Nat → ClassId) (dI : Nat → Nat → Nat) (cI cJ : ClassId) (a : Nat → Nat) (bf : Nat → Int32) (ln : Nat) (hln : ln ≤ 28) (G : GL) (n : Nat) (hn : n ≤ 20) (lg lp : Nat → Int32) (k : Nat) (hk : k ≤ 8) (rd : Nat → Int32) (np : Nat) (hp : np ≤ 16) (M : MS) (hG : gOK G n) (hL : lOK lg k n) (hR : rOK rd np)  : Met l yX6_plateCount wsX6_plateCount ({ frames := 0, cells := 0, slots := 0, locals := 0 }) (va_Pc [.ref (a 0)] (RO (dC, dI) (tyK cI cJ) ([(a 0, .inr (6, [.int (nI ln), .ref (a 1), .int (nI n), .ref (a 2), .ref (a 3), .int (nI k), .ref (a 4), .ref (a 5), .int (nI np), .ref (a 6), .long M.1, .ref (a 7), .int M.2.1, .int M.2.2.1, .int M.2.2.2.1, .int M.2.2.2.2.1, .ref (a 8), .long M.2.2.2.2.2.1])), (a 1, .inl (cI, 28, .inl bf)), (a 2, .inl (cJ, 20, .inr (.inl (gK G)))), (a 3, .inl (cI, 60, .inl (ilv G))), (a 4, .inl (cI, 8, .inl lg)), (a 5, .inl (cI, 8, .inl lp)), (a 6, .inl (cI, 16, .inl rd)), (a 7, .inl (cI, 3, .inl M.2.2.2.2.2.2.1)), (a 8, .inl (cJ, 3, .inr (.inl M.2.2.2.2.2.2.2)))]))) (vp_Sl (fun r => r = lN np)) 0 0 (fun _ => False) := by
  refine Met.ofW (cc := cX6_plateCount) (maxL := 1) (ret := (some .long)) (by decide) rfl ?_
  intro p e s m args below meth c s₁ B hml hv
  obtain ⟨rfl, hP, hK, hN⟩ := hv
  have hx := B.exec
  have hb := B.bytes
  have hr := B.returns
  have hts := atoms_spec (ws := wsX6_plateCount) B.pre
  have hown : s.vm.findClass RX6 = some m.cls := findClass_of_methodNamed B.named
  have hlocks := B.notSynchronized
  have hP : va_P (dC, dI) vwCl [(a 0, .inr (6, [.int (nI ln), .ref (a 1), .int (nI n), .ref (a 2), .ref (a 3), .int (nI k), .ref (a 4), .ref (a 5), .int (nI np), .ref (a 6), .long M.1, .ref (a 7), .int M.2.1, .int M.2.2.1, .int M.2.2.2.1, .int M.2.2.2.2.1, .ref (a 8), .long M.2.2.2.2.2.1])), (a 1, .inl (cI, 28, .inl bf)), (a 2, .inl (cJ, 20, .inr (.inl (gK G)))), (a 3, .inl (cI, 60, .inl (ilv G))), (a 4, .inl (cI, 8, .inl lg)), (a 5, .inl (cI, 8, .inl lp)), (a 6, .inl (cI, 16, .inl rd)), (a 7, .inl (cI, 3, .inl M.2.2.2.2.2.2.1)), (a 8, .inl (cJ, 3, .inr (.inl M.2.2.2.2.2.2.2)))] s.heap := hP
  have hl := lv_entry ([.ref (a 0)]) (n := 1) (Nat.le_of_ble_eq_true rfl)
  rw [lg_entry_eq]
  generalize (lg_sl ([.ref (a 0)]) ++ List.replicate (1 - (lg_sl ([.ref (a 0)])).length) Slot.unset).toArray = ls at hl ⊢
  have hl : lv_has ls 1 [(0, .ref (a 0))] := hl
  refine lv_aload_n hx hb dX6_plateCount_0 rfl (lv_at hl 0 rfl) ?_
  refine va_get (D := (dC, dI)) (ci := 6) (v := .int (nI np)) (C := RX6) (T := TX6) (N := 18) hx hb hts (by decide +kernel) hown hK hP 0 rfl rfl 8 (by decide) (hts (.fieldLink RX6 243 "AchromatDeskModel" "plates" "I") (by decide +kernel)) (fun _ h9 => h9) rfl dX6_plateCount_1 ?_
  refine lv_i2l (v := lN np) hx hb dX6_plateCount_4 (nI_l (by omega)) ?_
  exact W.lret hx hb hr (fun t ht hW => ⟨_, rfl, rfl, ht⟩) (fun _ h => absurd h List.not_mem_nil) dX6_plateCount_5

set_option maxHeartbeats 4000000 in
set_option maxRecDepth 100000 in
theorem c_X6_index (l : Launch) (dC : Nat → ClassId) (dI : Nat → Nat → Nat) (cI cJ : ClassId) (a : Nat → Nat) (bf : Nat → Int32) (ln : Nat) (hln : ln ≤ 28) (G : GL) (n : Nat) (hn : n ≤ 20) (lg lp : Nat → Int32) (k : Nat) (hk : k ≤ 8) (rd : Nat → Int32) (np : Nat) (hp : np ≤ 16) (M : MS) (hG : gOK G n) (hL : lOK lg k n) (hR : rOK rd np) (x cl : Int32) : Met l yX6_index wsX6_index ({ frames := 2, cells := 0, slots := 0, locals := 46 }) (va_Pc [.ref (a 0), .int x, .int cl] (RO (dC, dI) (tyK cI cJ) ([(a 0, .inr (6, [.int (nI ln), .ref (a 1), .int (nI n), .ref (a 2), .ref (a 3), .int (nI k), .ref (a 4), .ref (a 5), .int (nI np), .ref (a 6), .long M.1, .ref (a 7), .int M.2.1, .int M.2.2.1, .int M.2.2.2.1, .int M.2.2.2.2.1, .ref (a 8), .long M.2.2.2.2.2.1])), (a 1, .inl (cI, 28, .inl bf)), (a 2, .inl (cJ, 20, .inr (.inl (gK G)))), (a 3, .inl (cI, 60, .inl (ilv G))), (a 4, .inl (cI, 8, .inl lg)), (a 5, .inl (cI, 8, .inl lp)), (a 6, .inl (cI, 16, .inl rd)), (a 7, .inl (cI, 3, .inl M.2.2.2.2.2.2.1)), (a 8, .inl (cJ, 3, .inr (.inl M.2.2.2.2.2.2.2)))]))) (vp_Sl (fun r => r = sIndex G n x cl)) 0 0 (fun _ => False) := by
  refine Met.ofW (cc := cX6_index) (maxL := 3) (ret := (some .long)) (by decide) rfl ?_
  intro p e s m args below meth c s₁ B hml hv
  obtain ⟨rfl, hP, hK, hN⟩ := hv
  have hx := B.exec
  have hb := B.bytes
  have hr := B.returns
  have hts := atoms_spec (ws := wsX6_index) B.pre
  have hown : s.vm.findClass RX6 = some m.cls := findClass_of_methodNamed B.named
  have hlocks := B.notSynchronized
  have hP : va_P (dC, dI) vwCl [(a 0, .inr (6, [.int (nI ln), .ref (a 1), .int (nI n), .ref (a 2), .ref (a 3), .int (nI k), .ref (a 4), .ref (a 5), .int (nI np), .ref (a 6), .long M.1, .ref (a 7), .int M.2.1, .int M.2.2.1, .int M.2.2.2.1, .int M.2.2.2.2.1, .ref (a 8), .long M.2.2.2.2.2.1])), (a 1, .inl (cI, 28, .inl bf)), (a 2, .inl (cJ, 20, .inr (.inl (gK G)))), (a 3, .inl (cI, 60, .inl (ilv G))), (a 4, .inl (cI, 8, .inl lg)), (a 5, .inl (cI, 8, .inl lp)), (a 6, .inl (cI, 16, .inl rd)), (a 7, .inl (cI, 3, .inl M.2.2.2.2.2.2.1)), (a 8, .inl (cJ, 3, .inr (.inl M.2.2.2.2.2.2.2)))] s.heap := hP
  have hl := lv_entry ([.ref (a 0), .int x, .int cl]) (n := 3) (Nat.le_of_ble_eq_true rfl)
  rw [lg_entry_eq]
  generalize (lg_sl ([.ref (a 0), .int x, .int cl]) ++ List.replicate (3 - (lg_sl ([.ref (a 0), .int x, .int cl])).length) Slot.unset).toArray = ls at hl ⊢
  have hl : lv_has ls 3 [(0, .ref (a 0)), (1, .int x), (2, .int cl)] := hl
  refine lv_aload_n hx hb dX6_index_0 rfl (lv_at hl 0 rfl) ?_
  refine lv_iload_n hx hb dX6_index_1 rfl (lv_at hl 1 rfl) ?_
  refine roVi (As := [.int x]) (rest := []) (c_X6_isGlass l dC dI cI cJ a bf ln (by omega) G n (by omega) lg lp k (by omega) rd np (by omega) M hG hL hR x) ⟨hx, hb, hml, hown, hts⟩ (cwV 1 hts gX6_index_X6_isGlass rfl rfl rfl (by decide +kernel) ⟨Nat.le_of_ble_eq_true rfl, Nat.le_of_ble_eq_true rfl⟩) (hP.sub [0, 1, 2, 3, 4, 5, 6, 7, 8] rfl) hK hN (ci := 6) rfl rfl rfl hl.1 rfl (Nat.le_of_ble_eq_true rfl) dX6_index_2 ⟨Nat.zero_le _, Nat.zero_le _⟩ (fun r hr0 => ?_)
  subst hr0
  refine rb_ne (tgt := 12) hx hb dX6_index_5 (by decide) (fun h5 => ?_) (fun h5 => ?_)
  · obtain ⟨g, hg, eg⟩ := hasP_ex (by omega) h5
    subst eg
    refine lv_iload_n hx hb dX6_index_12 rfl (lv_at hl 2 rfl) ?_
    refine stSi (As := [.int cl]) (rest := []) (c_X6_isColour l cl) ⟨hx, hb, hml, hown, hts⟩ (va_cwS 1 hts gX6_index_X6_isColour rfl rfl rfl (by decide +kernel) ⟨Nat.le_of_ble_eq_true rfl, Nat.le_of_ble_eq_true rfl⟩) rfl hl.1 rfl (Nat.le_of_ble_eq_true rfl) dX6_index_13 ⟨Nat.zero_le _, Nat.zero_le _⟩ (fun r hr0 => ?_)
    subst hr0
    refine rb_eq (tgt := 33) hx hb dX6_index_16 (by decide) (fun h16 => ?_) (fun h16 => ?_)
    · refine lv_ldc2 (v := (-9000000000000000001)) hx hb hown (hts (.constantLong RX6 53 (-9000000000000000001)) (by decide +kernel)) dX6_index_33 ?_
      exact W.lret hx hb hr (fun t ht hW => ⟨_, rfl, by rw [sIndex, if_pos h5, if_neg h16], ht⟩) (fun _ h => absurd h List.not_mem_nil) dX6_index_36
    · obtain ⟨j, hj, ej⟩ := hasP_ex (x := cl) (n := 3) (by omega) ⟨h16.1, Int32.lt_of_le_of_lt h16.2 (by decide)⟩
      subst ej
      refine lv_aload_n hx hb dX6_index_19 rfl (lv_at hl 0 rfl) ?_
      refine va_get (D := (dC, dI)) (ci := 6) (v := .ref (a 3)) (C := RX6) (T := TX6) (N := 18) hx hb hts (by decide +kernel) hown hK hP 0 rfl rfl 4 (by decide) (hts (.fieldLink RX6 17 "AchromatDeskModel" "indices" "[I") (by decide +kernel)) (fun _ h9 => h9) rfl dX6_index_20 ?_
      refine lv_iconst (v := 3) hx hb dX6_index_23 (by decide) ?_
      refine lv_iload_n hx hb dX6_index_24 rfl (lv_at hl 1 rfl) ?_
      refine lv_imul hx hb dX6_index_25 ?_
      refine rw_topi (pk_mul 3 g) ?_
      refine lv_iload_n hx hb dX6_index_26 rfl (lv_at hl 2 rfl) ?_
      refine lv_iadd hx hb dX6_index_27 ?_
      refine rw_topi (nI_add (3 * g) j) ?_
      refine ar_iald hx hb hK hP 3 0 rfl rfl ((3 * g) + j) rfl (by omega) (by omega) dX6_index_28 ?_
      refine rw_topi (show ((ilv G) ((3 * g) + j) : Int32) = (vN G g (nI j) : Int32) from ilv_c G g (by omega)) ?_
      refine lv_i2l (v := (vN G g (nI j)).toInt64) hx hb dX6_index_29 rfl ?_
      refine lv_goto (tgt := 36) hx hb dX6_index_30 (by decide) ?_
      exact W.lret hx hb hr (fun t ht hW => ⟨_, rfl, by rw [sIndex, if_pos h5, if_pos h16, ix_nI (by omega)], ht⟩) (fun _ h => absurd h List.not_mem_nil) dX6_index_36
  · refine lv_ldc2 (v := (-9000000000000000002)) hx hb hown (hts (.constantLong RX6 104 (-9000000000000000002)) (by decide +kernel)) dX6_index_8 ?_
    exact W.lret hx hb hr (fun t ht hW => ⟨_, rfl, by rw [sIndex, if_neg h5], ht⟩) (fun _ h => absurd h List.not_mem_nil) dX6_index_11

set_option maxHeartbeats 4000000 in
set_option maxRecDepth 100000 in
theorem c_X6_placeNow (l : Launch) (dC : Nat → ClassId) (dI : Nat → Nat → Nat) (cI cJ : ClassId) (a : Nat → Nat) (bf : Nat → Int32) (ln : Nat) (hln : ln ≤ 28) (G : GL) (n : Nat) (hn : n ≤ 20) (lg lp : Nat → Int32) (k : Nat) (hk : k ≤ 8) (rd : Nat → Int32) (np : Nat) (hp : np ≤ 16) (M : MS) (hG : gOK G n) (hL : lOK lg k n) (hR : rOK rd np) (g : Nat) (hg : g < n) : Met l yX6_placeNow wsX6_placeNow ({ frames := 0, cells := 0, slots := 0, locals := 0 }) (va_Pc [.ref (a 0), .int (nI g)] (RO (dC, dI) (tyK cI cJ) ([(a 0, .inr (6, [.int (nI ln), .ref (a 1), .int (nI n), .ref (a 2), .ref (a 3), .int (nI k), .ref (a 4), .ref (a 5), .int (nI np), .ref (a 6), .long M.1, .ref (a 7), .int M.2.1, .int M.2.2.1, .int M.2.2.2.1, .int M.2.2.2.2.1, .ref (a 8), .long M.2.2.2.2.2.1])), (a 1, .inl (cI, 28, .inl bf)), (a 2, .inl (cJ, 20, .inr (.inl (gK G)))), (a 3, .inl (cI, 60, .inl (ilv G))), (a 4, .inl (cI, 8, .inl lg)), (a 5, .inl (cI, 8, .inl lp)), (a 6, .inl (cI, 16, .inl rd)), (a 7, .inl (cI, 3, .inl M.2.2.2.2.2.2.1)), (a 8, .inl (cJ, 3, .inr (.inl M.2.2.2.2.2.2.2)))]))) (vp_Sl (fun r => r = lN (nBef (gK G) g n))) 0 0 (fun _ => False) := by
  refine Met.ofW (cc := cX6_placeNow) (maxL := 5) (ret := (some .long)) (by decide) rfl ?_
  intro p e s m args below meth c s₁ B hml hv
  obtain ⟨rfl, hP, hK, hN⟩ := hv
  have hx := B.exec
  have hb := B.bytes
  have hr := B.returns
  have hts := atoms_spec (ws := wsX6_placeNow) B.pre
  have hown : s.vm.findClass RX6 = some m.cls := findClass_of_methodNamed B.named
  have hlocks := B.notSynchronized
  have hP : va_P (dC, dI) vwCl [(a 0, .inr (6, [.int (nI ln), .ref (a 1), .int (nI n), .ref (a 2), .ref (a 3), .int (nI k), .ref (a 4), .ref (a 5), .int (nI np), .ref (a 6), .long M.1, .ref (a 7), .int M.2.1, .int M.2.2.1, .int M.2.2.2.1, .int M.2.2.2.2.1, .ref (a 8), .long M.2.2.2.2.2.1])), (a 1, .inl (cI, 28, .inl bf)), (a 2, .inl (cJ, 20, .inr (.inl (gK G)))), (a 3, .inl (cI, 60, .inl (ilv G))), (a 4, .inl (cI, 8, .inl lg)), (a 5, .inl (cI, 8, .inl lp)), (a 6, .inl (cI, 16, .inl rd)), (a 7, .inl (cI, 3, .inl M.2.2.2.2.2.2.1)), (a 8, .inl (cJ, 3, .inr (.inl M.2.2.2.2.2.2.2)))] s.heap := hP
  have hl := lv_entry ([.ref (a 0), .int (nI g)]) (n := 5) (Nat.le_of_ble_eq_true rfl)
  rw [lg_entry_eq]
  generalize (lg_sl ([.ref (a 0), .int (nI g)]) ++ List.replicate (5 - (lg_sl ([.ref (a 0), .int (nI g)])).length) Slot.unset).toArray = ls at hl ⊢
  have hl : lv_has ls 5 [(0, .ref (a 0)), (1, .int (nI g))] := hl
  refine lv_lconst (v := 0) hx hb dX6_placeNow_0 (by decide) ?_
  refine lv_lstore_n (lv' := [(2, .long 0), (0, .ref (a 0)), (1, .int (nI g))]) hx hb dX6_placeNow_1 rfl hl (by decide) rfl (fun ls hl => ?_)
  refine lv_iconst (v := 0) hx hb dX6_placeNow_2 (by decide) ?_
  refine lv_istore (lv' := [(4, .int 0), (2, .long 0), (0, .ref (a 0)), (1, .int (nI g))]) hx hb dX6_placeNow_3 hl (by decide) rfl (fun ls hl => ?_)
  refine rloopZ (nL := 5) 0 n (fun k z => if gK G k < gK G g then z + 1 else z) 0 (fun k5 z5 => [(4, .int (nI k5)), (2, .long (lN z5)), (0, .ref (a 0)), (1, .int (nI g))]) (fun _ _ => True) (by omega) (trivial) (lv_sub hl [0, 1, 2, 3] rfl) (fun k5 z5 hlo5 hk5 hz5 hI5 ls hl ih5 => ?_) (fun z5 hz5 hI5 ls hl => ?_)
  · refine lv_iload hx hb dX6_placeNow_5 (lv_at hl 0 rfl) ?_
    refine lv_aload_n hx hb dX6_placeNow_7 rfl (lv_at hl 2 rfl) ?_
    refine va_get (D := (dC, dI)) (ci := 6) (v := .int (nI n)) (C := RX6) (T := TX6) (N := 18) hx hb hts (by decide +kernel) hown hK hP 0 rfl rfl 2 (by decide) (hts (.fieldLink RX6 35 "AchromatDeskModel" "glasses" "I") (by decide +kernel)) (fun _ h9 => h9) rfl dX6_placeNow_8 ?_
    refine rn_ge (tgt := 45) hx hb k5 n rfl rfl (by omega) (by omega) dX6_placeNow_11 (by decide) (fun h11 => ?_) (fun h11 => ?_)
    · exfalso; omega
    · refine lv_lload_n hx hb dX6_placeNow_14 rfl (lv_at hl 1 rfl) ?_
      refine lv_aload_n hx hb dX6_placeNow_15 rfl (lv_at hl 2 rfl) ?_
      refine va_get (D := (dC, dI)) (ci := 6) (v := .ref (a 2)) (C := RX6) (T := TX6) (N := 18) hx hb hts (by decide +kernel) hown hK hP 0 rfl rfl 3 (by decide) (hts (.fieldLink RX6 13 "AchromatDeskModel" "name" "[J") (by decide +kernel)) (fun _ h9 => h9) rfl dX6_placeNow_16 ?_
      refine lv_iload hx hb dX6_placeNow_19 (lv_at hl 0 rfl) ?_
      refine ar_lald hx hb hK hP 2 1 rfl rfl k5 rfl (by omega) (by omega) dX6_placeNow_21 ?_
      refine lv_aload_n hx hb dX6_placeNow_22 rfl (lv_at hl 2 rfl) ?_
      refine va_get (D := (dC, dI)) (ci := 6) (v := .ref (a 2)) (C := RX6) (T := TX6) (N := 18) hx hb hts (by decide +kernel) hown hK hP 0 rfl rfl 3 (by decide) (hts (.fieldLink RX6 13 "AchromatDeskModel" "name" "[J") (by decide +kernel)) (fun _ h9 => h9) rfl dX6_placeNow_23 ?_
      refine lv_iload_n hx hb dX6_placeNow_26 rfl (lv_at hl 3 rfl) ?_
      refine ar_lald hx hb hK hP 2 1 rfl rfl g rfl (by omega) (by omega) dX6_placeNow_27 ?_
      refine rl_ifge (tgt := 36) hx hb dX6_placeNow_28 dX6_placeNow_29 (by decide) (fun h28 => ?_) (fun h28 => ?_)
      · refine lv_lconst (v := 0) hx hb dX6_placeNow_36 (by decide) ?_
        refine lv_ladd hx hb dX6_placeNow_37 ?_
        refine rw_topl (lN_add z5 0) ?_
        refine lv_lstore_n (lv' := [(2, .long (lN (z5 + 0))), (4, .int (nI k5)), (0, .ref (a 0)), (1, .int (nI g))]) hx hb dX6_placeNow_38 rfl hl (by decide) rfl (fun ls hl => ?_)
        refine lv_iinc (v := nI (k5 + 1)) (lv' := [(4, .int (nI (k5 + 1))), (2, .long (lN (z5 + 0))), (0, .ref (a 0)), (1, .int (nI g))]) hx hb dX6_placeNow_39 hl (k := 1) rfl (by first | rfl | exact nI_add _ _) (by decide) rfl (fun ls hl => ?_)
        refine lv_goto (tgt := 5) hx hb dX6_placeNow_42 (by decide) ?_
        exact ih5 z5 ((if_neg h28).symm) (trivial) ls (lv_sub hl [0, 1, 2, 3] rfl)
      · refine lv_lconst (v := 1) hx hb dX6_placeNow_32 (by decide) ?_
        refine lv_goto (tgt := 37) hx hb dX6_placeNow_33 (by decide) ?_
        refine lv_ladd hx hb dX6_placeNow_37 ?_
        refine rw_topl (lN_add z5 1) ?_
        refine lv_lstore_n (lv' := [(2, .long (lN (z5 + 1))), (4, .int (nI k5)), (0, .ref (a 0)), (1, .int (nI g))]) hx hb dX6_placeNow_38 rfl hl (by decide) rfl (fun ls hl => ?_)
        refine lv_iinc (v := nI (k5 + 1)) (lv' := [(4, .int (nI (k5 + 1))), (2, .long (lN (z5 + 1))), (0, .ref (a 0)), (1, .int (nI g))]) hx hb dX6_placeNow_39 hl (k := 1) rfl (by first | rfl | exact nI_add _ _) (by decide) rfl (fun ls hl => ?_)
        refine lv_goto (tgt := 5) hx hb dX6_placeNow_42 (by decide) ?_
        exact ih5 (z5 + 1) ((if_pos h28).symm) (trivial) ls (lv_sub hl [0, 1, 2, 3] rfl)
  · refine lv_iload hx hb dX6_placeNow_5 (lv_at hl 0 rfl) ?_
    refine lv_aload_n hx hb dX6_placeNow_7 rfl (lv_at hl 2 rfl) ?_
    refine va_get (D := (dC, dI)) (ci := 6) (v := .int (nI n)) (C := RX6) (T := TX6) (N := 18) hx hb hts (by decide +kernel) hown hK hP 0 rfl rfl 2 (by decide) (hts (.fieldLink RX6 35 "AchromatDeskModel" "glasses" "I") (by decide +kernel)) (fun _ h9 => h9) rfl dX6_placeNow_8 ?_
    refine rn_ge (tgt := 45) hx hb n n rfl rfl (by omega) (by omega) dX6_placeNow_11 (by decide) (fun h11 => ?_) (fun h11 => ?_)
    · refine lv_lload_n hx hb dX6_placeNow_45 rfl (lv_at hl 1 rfl) ?_
      exact W.lret hx hb hr (fun t ht hW => ⟨_, rfl, by rw [hz5]; rfl, ht⟩) (fun _ h => absurd h List.not_mem_nil) dX6_placeNow_46
    · exfalso; omega

set_option maxHeartbeats 4000000 in
set_option maxRecDepth 100000 in
theorem c_X6_placeByName (l : Launch) (dC : Nat → ClassId) (dI : Nat → Nat → Nat) (cI cJ : ClassId) (a : Nat → Nat) (bf : Nat → Int32) (ln : Nat) (hln : ln ≤ 28) (G : GL) (n : Nat) (hn : n ≤ 20) (lg lp : Nat → Int32) (k : Nat) (hk : k ≤ 8) (rd : Nat → Int32) (np : Nat) (hp : np ≤ 16) (M : MS) (hG : gOK G n) (hL : lOK lg k n) (hR : rOK rd np) (x : Int32) : Met l yX6_placeByName wsX6_placeByName ({ frames := 2, cells := 0, slots := 0, locals := 46 }) (va_Pc [.ref (a 0), .int x] (RO (dC, dI) (tyK cI cJ) ([(a 0, .inr (6, [.int (nI ln), .ref (a 1), .int (nI n), .ref (a 2), .ref (a 3), .int (nI k), .ref (a 4), .ref (a 5), .int (nI np), .ref (a 6), .long M.1, .ref (a 7), .int M.2.1, .int M.2.2.1, .int M.2.2.2.1, .int M.2.2.2.2.1, .ref (a 8), .long M.2.2.2.2.2.1])), (a 1, .inl (cI, 28, .inl bf)), (a 2, .inl (cJ, 20, .inr (.inl (gK G)))), (a 3, .inl (cI, 60, .inl (ilv G))), (a 4, .inl (cI, 8, .inl lg)), (a 5, .inl (cI, 8, .inl lp)), (a 6, .inl (cI, 16, .inl rd)), (a 7, .inl (cI, 3, .inl M.2.2.2.2.2.2.1)), (a 8, .inl (cJ, 3, .inr (.inl M.2.2.2.2.2.2.2)))]))) (vp_Sl (fun r => r = sPlace G n x)) 0 0 (fun _ => False) := by
  refine Met.ofW (cc := cX6_placeByName) (maxL := 2) (ret := (some .long)) (by decide) rfl ?_
  intro p e s m args below meth c s₁ B hml hv
  obtain ⟨rfl, hP, hK, hN⟩ := hv
  have hx := B.exec
  have hb := B.bytes
  have hr := B.returns
  have hts := atoms_spec (ws := wsX6_placeByName) B.pre
  have hown : s.vm.findClass RX6 = some m.cls := findClass_of_methodNamed B.named
  have hlocks := B.notSynchronized
  have hP : va_P (dC, dI) vwCl [(a 0, .inr (6, [.int (nI ln), .ref (a 1), .int (nI n), .ref (a 2), .ref (a 3), .int (nI k), .ref (a 4), .ref (a 5), .int (nI np), .ref (a 6), .long M.1, .ref (a 7), .int M.2.1, .int M.2.2.1, .int M.2.2.2.1, .int M.2.2.2.2.1, .ref (a 8), .long M.2.2.2.2.2.1])), (a 1, .inl (cI, 28, .inl bf)), (a 2, .inl (cJ, 20, .inr (.inl (gK G)))), (a 3, .inl (cI, 60, .inl (ilv G))), (a 4, .inl (cI, 8, .inl lg)), (a 5, .inl (cI, 8, .inl lp)), (a 6, .inl (cI, 16, .inl rd)), (a 7, .inl (cI, 3, .inl M.2.2.2.2.2.2.1)), (a 8, .inl (cJ, 3, .inr (.inl M.2.2.2.2.2.2.2)))] s.heap := hP
  have hl := lv_entry ([.ref (a 0), .int x]) (n := 2) (Nat.le_of_ble_eq_true rfl)
  rw [lg_entry_eq]
  generalize (lg_sl ([.ref (a 0), .int x]) ++ List.replicate (2 - (lg_sl ([.ref (a 0), .int x])).length) Slot.unset).toArray = ls at hl ⊢
  have hl : lv_has ls 2 [(0, .ref (a 0)), (1, .int x)] := hl
  refine lv_aload_n hx hb dX6_placeByName_0 rfl (lv_at hl 0 rfl) ?_
  refine lv_iload_n hx hb dX6_placeByName_1 rfl (lv_at hl 1 rfl) ?_
  refine roVi (As := [.int x]) (rest := []) (c_X6_isGlass l dC dI cI cJ a bf ln (by omega) G n (by omega) lg lp k (by omega) rd np (by omega) M hG hL hR x) ⟨hx, hb, hml, hown, hts⟩ (cwV 1 hts gX6_placeByName_X6_isGlass rfl rfl rfl (by decide +kernel) ⟨Nat.le_of_ble_eq_true rfl, Nat.le_of_ble_eq_true rfl⟩) (hP.sub [0, 1, 2, 3, 4, 5, 6, 7, 8] rfl) hK hN (ci := 6) rfl rfl rfl hl.1 rfl (Nat.le_of_ble_eq_true rfl) dX6_placeByName_2 ⟨Nat.zero_le _, Nat.zero_le _⟩ (fun r hr0 => ?_)
  subst hr0
  refine rb_eq (tgt := 16) hx hb dX6_placeByName_5 (by decide) (fun h5 => ?_) (fun h5 => ?_)
  · refine lv_ldc2 (v := (-9000000000000000002)) hx hb hown (hts (.constantLong RX6 104 (-9000000000000000002)) (by decide +kernel)) dX6_placeByName_16 ?_
    exact W.lret hx hb hr (fun t ht hW => ⟨_, rfl, by rw [sPlace, if_neg h5], ht⟩) (fun _ h => absurd h List.not_mem_nil) dX6_placeByName_19
  · obtain ⟨g, hg, eg⟩ := hasP_ex (by omega) h5
    subst eg
    refine lv_aload_n hx hb dX6_placeByName_8 rfl (lv_at hl 0 rfl) ?_
    refine lv_iload_n hx hb dX6_placeByName_9 rfl (lv_at hl 1 rfl) ?_
    refine roVl (As := [.int (nI g)]) (rest := []) (c_X6_placeNow l dC dI cI cJ a bf ln (by omega) G n (by omega) lg lp k (by omega) rd np (by omega) M hG hL hR g (by omega)) ⟨hx, hb, hml, hown, hts⟩ (cwV 1 hts gX6_placeByName_X6_placeNow rfl rfl rfl (by decide +kernel) ⟨Nat.le_of_ble_eq_true rfl, Nat.le_of_ble_eq_true rfl⟩) (hP.sub [0, 1, 2, 3, 4, 5, 6, 7, 8] rfl) hK hN (ci := 6) rfl rfl rfl hl.1 rfl (Nat.le_of_ble_eq_true rfl) dX6_placeByName_10 ⟨Nat.zero_le _, Nat.zero_le _⟩ (fun r hr0 => ?_)
    subst hr0
    refine lv_goto (tgt := 19) hx hb dX6_placeByName_13 (by decide) ?_
    exact W.lret hx hb hr (fun t ht hW => ⟨_, rfl, by rw [sPlace, if_pos h5, ix_nI (by omega)], ht⟩) (fun _ h => absurd h List.not_mem_nil) dX6_placeByName_19

set_option maxHeartbeats 4000000 in
set_option maxRecDepth 100000 in
theorem c_X6_abbeNow (l : Launch) (dC : Nat → ClassId) (dI : Nat → Nat → Nat) (cI cJ : ClassId) (a : Nat → Nat) (bf : Nat → Int32) (ln : Nat) (hln : ln ≤ 28) (G : GL) (n : Nat) (hn : n ≤ 20) (lg lp : Nat → Int32) (k : Nat) (hk : k ≤ 8) (rd : Nat → Int32) (np : Nat) (hp : np ≤ 16) (M : MS) (hG : gOK G n) (hL : lOK lg k n) (hR : rOK rd np) (g : Nat) (hg : g < n) : Met l yX6_abbeNow wsX6_abbeNow ({ frames := 1, cells := 0, slots := 0, locals := 21 }) (va_Pc [.ref (a 0), .int (nI g)] (RO (dC, dI) (tyK cI cJ) ([(a 0, .inr (6, [.int (nI ln), .ref (a 1), .int (nI n), .ref (a 2), .ref (a 3), .int (nI k), .ref (a 4), .ref (a 5), .int (nI np), .ref (a 6), .long M.1, .ref (a 7), .int M.2.1, .int M.2.2.1, .int M.2.2.2.1, .int M.2.2.2.2.1, .ref (a 8), .long M.2.2.2.2.2.1])), (a 1, .inl (cI, 28, .inl bf)), (a 2, .inl (cJ, 20, .inr (.inl (gK G)))), (a 3, .inl (cI, 60, .inl (ilv G))), (a 4, .inl (cI, 8, .inl lg)), (a 5, .inl (cI, 8, .inl lp)), (a 6, .inl (cI, 16, .inl rd)), (a 7, .inl (cI, 3, .inl M.2.2.2.2.2.2.1)), (a 8, .inl (cJ, 3, .inr (.inl M.2.2.2.2.2.2.2)))]))) (vp_Sl (fun r => r = vAbb G g)) 0 0 (fun _ => False) := by
  refine Met.ofW (cc := cX6_abbeNow) (maxL := 2) (ret := (some .long)) (by decide) rfl ?_
  intro p e s m args below meth c s₁ B hml hv
  obtain ⟨rfl, hP, hK, hN⟩ := hv
  have hx := B.exec
  have hb := B.bytes
  have hr := B.returns
  have hts := atoms_spec (ws := wsX6_abbeNow) B.pre
  have hown : s.vm.findClass RX6 = some m.cls := findClass_of_methodNamed B.named
  have hlocks := B.notSynchronized
  have hP : va_P (dC, dI) vwCl [(a 0, .inr (6, [.int (nI ln), .ref (a 1), .int (nI n), .ref (a 2), .ref (a 3), .int (nI k), .ref (a 4), .ref (a 5), .int (nI np), .ref (a 6), .long M.1, .ref (a 7), .int M.2.1, .int M.2.2.1, .int M.2.2.2.1, .int M.2.2.2.2.1, .ref (a 8), .long M.2.2.2.2.2.1])), (a 1, .inl (cI, 28, .inl bf)), (a 2, .inl (cJ, 20, .inr (.inl (gK G)))), (a 3, .inl (cI, 60, .inl (ilv G))), (a 4, .inl (cI, 8, .inl lg)), (a 5, .inl (cI, 8, .inl lp)), (a 6, .inl (cI, 16, .inl rd)), (a 7, .inl (cI, 3, .inl M.2.2.2.2.2.2.1)), (a 8, .inl (cJ, 3, .inr (.inl M.2.2.2.2.2.2.2)))] s.heap := hP
  have hl := lv_entry ([.ref (a 0), .int (nI g)]) (n := 2) (Nat.le_of_ble_eq_true rfl)
  rw [lg_entry_eq]
  generalize (lg_sl ([.ref (a 0), .int (nI g)]) ++ List.replicate (2 - (lg_sl ([.ref (a 0), .int (nI g)])).length) Slot.unset).toArray = ls at hl ⊢
  have hl : lv_has ls 2 [(0, .ref (a 0)), (1, .int (nI g))] := hl
  refine lv_ldc2 (v := 1000) hx hb hown (hts (.constantLong RX6 115 (1000)) (by decide +kernel)) dX6_abbeNow_0 ?_
  refine lv_aload_n hx hb dX6_abbeNow_3 rfl (lv_at hl 0 rfl) ?_
  refine lv_iload_n hx hb dX6_abbeNow_4 rfl (lv_at hl 1 rfl) ?_
  refine roVl (As := [.int (nI g)]) (rest := [.long 1000]) (c_X6_a l dC dI cI cJ a bf ln (by omega) G n (by omega) lg lp k (by omega) rd np (by omega) M hG hL hR g (by omega)) ⟨hx, hb, hml, hown, hts⟩ (cwV 1 hts gX6_abbeNow_X6_a rfl rfl rfl (by decide +kernel) ⟨Nat.le_of_ble_eq_true rfl, Nat.le_of_ble_eq_true rfl⟩) (hP.sub [0, 1, 2, 3, 4, 5, 6, 7, 8] rfl) hK hN (ci := 6) rfl rfl rfl hl.1 rfl (Nat.le_of_ble_eq_true rfl) dX6_abbeNow_5 ⟨Nat.zero_le _, Nat.zero_le _⟩ (fun r hr0 => ?_)
  subst hr0
  refine lv_lmul hx hb dX6_abbeNow_8 ?_
  refine lv_aload_n hx hb dX6_abbeNow_9 rfl (lv_at hl 0 rfl) ?_
  refine lv_iload_n hx hb dX6_abbeNow_10 rfl (lv_at hl 1 rfl) ?_
  refine roVl (As := [.int (nI g)]) (rest := [.long (1000 * (vA G g))]) (c_X6_b l dC dI cI cJ a bf ln (by omega) G n (by omega) lg lp k (by omega) rd np (by omega) M hG hL hR g (by omega)) ⟨hx, hb, hml, hown, hts⟩ (cwV 1 hts gX6_abbeNow_X6_b rfl rfl rfl (by decide +kernel) ⟨Nat.le_of_ble_eq_true rfl, Nat.le_of_ble_eq_true rfl⟩) (hP.sub [0, 1, 2, 3, 4, 5, 6, 7, 8] rfl) hK hN (ci := 6) rfl rfl rfl hl.1 rfl (Nat.le_of_ble_eq_true rfl) dX6_abbeNow_11 ⟨Nat.zero_le _, Nat.zero_le _⟩ (fun r hr0 => ?_)
  subst hr0
  refine lv_ldiv hx hb dX6_abbeNow_14 (vB_ne hG hg) ?_
  exact W.lret hx hb hr (fun t ht hW => ⟨_, rfl, abb_div hG hg, ht⟩) (fun _ h => absurd h List.not_mem_nil) dX6_abbeNow_15

set_option maxHeartbeats 4000000 in
set_option maxRecDepth 100000 in
theorem c_X6_partialNow (l : Launch) (dC : Nat → ClassId) (dI : Nat → Nat → Nat) (cI cJ : ClassId) (a : Nat → Nat) (bf : Nat → Int32) (ln : Nat) (hln : ln ≤ 28) (G : GL) (n : Nat) (hn : n ≤ 20) (lg lp : Nat → Int32) (k : Nat) (hk : k ≤ 8) (rd : Nat → Int32) (np : Nat) (hp : np ≤ 16) (M : MS) (hG : gOK G n) (hL : lOK lg k n) (hR : rOK rd np) (g : Nat) (hg : g < n) : Met l yX6_partialNow wsX6_partialNow ({ frames := 1, cells := 0, slots := 0, locals := 21 }) (va_Pc [.ref (a 0), .int (nI g)] (RO (dC, dI) (tyK cI cJ) ([(a 0, .inr (6, [.int (nI ln), .ref (a 1), .int (nI n), .ref (a 2), .ref (a 3), .int (nI k), .ref (a 4), .ref (a 5), .int (nI np), .ref (a 6), .long M.1, .ref (a 7), .int M.2.1, .int M.2.2.1, .int M.2.2.2.1, .int M.2.2.2.2.1, .ref (a 8), .long M.2.2.2.2.2.1])), (a 1, .inl (cI, 28, .inl bf)), (a 2, .inl (cJ, 20, .inr (.inl (gK G)))), (a 3, .inl (cI, 60, .inl (ilv G))), (a 4, .inl (cI, 8, .inl lg)), (a 5, .inl (cI, 8, .inl lp)), (a 6, .inl (cI, 16, .inl rd)), (a 7, .inl (cI, 3, .inl M.2.2.2.2.2.2.1)), (a 8, .inl (cJ, 3, .inr (.inl M.2.2.2.2.2.2.2)))]))) (vp_Sl (fun r => r = vPar G g)) 0 0 (fun _ => False) := by
  refine Met.ofW (cc := cX6_partialNow) (maxL := 2) (ret := (some .long)) (by decide) rfl ?_
  intro p e s m args below meth c s₁ B hml hv
  obtain ⟨rfl, hP, hK, hN⟩ := hv
  have hx := B.exec
  have hb := B.bytes
  have hr := B.returns
  have hts := atoms_spec (ws := wsX6_partialNow) B.pre
  have hown : s.vm.findClass RX6 = some m.cls := findClass_of_methodNamed B.named
  have hlocks := B.notSynchronized
  have hP : va_P (dC, dI) vwCl [(a 0, .inr (6, [.int (nI ln), .ref (a 1), .int (nI n), .ref (a 2), .ref (a 3), .int (nI k), .ref (a 4), .ref (a 5), .int (nI np), .ref (a 6), .long M.1, .ref (a 7), .int M.2.1, .int M.2.2.1, .int M.2.2.2.1, .int M.2.2.2.2.1, .ref (a 8), .long M.2.2.2.2.2.1])), (a 1, .inl (cI, 28, .inl bf)), (a 2, .inl (cJ, 20, .inr (.inl (gK G)))), (a 3, .inl (cI, 60, .inl (ilv G))), (a 4, .inl (cI, 8, .inl lg)), (a 5, .inl (cI, 8, .inl lp)), (a 6, .inl (cI, 16, .inl rd)), (a 7, .inl (cI, 3, .inl M.2.2.2.2.2.2.1)), (a 8, .inl (cJ, 3, .inr (.inl M.2.2.2.2.2.2.2)))] s.heap := hP
  have hl := lv_entry ([.ref (a 0), .int (nI g)]) (n := 2) (Nat.le_of_ble_eq_true rfl)
  rw [lg_entry_eq]
  generalize (lg_sl ([.ref (a 0), .int (nI g)]) ++ List.replicate (2 - (lg_sl ([.ref (a 0), .int (nI g)])).length) Slot.unset).toArray = ls at hl ⊢
  have hl : lv_has ls 2 [(0, .ref (a 0)), (1, .int (nI g))] := hl
  refine lv_ldc2 (v := 100000) hx hb hown (hts (.constantLong RX6 123 (100000)) (by decide +kernel)) dX6_partialNow_0 ?_
  refine lv_aload_n hx hb dX6_partialNow_3 rfl (lv_at hl 0 rfl) ?_
  refine lv_iload_n hx hb dX6_partialNow_4 rfl (lv_at hl 1 rfl) ?_
  refine roVl (As := [.int (nI g)]) (rest := [.long 100000]) (c_X6_d l dC dI cI cJ a bf ln (by omega) G n (by omega) lg lp k (by omega) rd np (by omega) M hG hL hR g (by omega)) ⟨hx, hb, hml, hown, hts⟩ (cwV 1 hts gX6_partialNow_X6_d rfl rfl rfl (by decide +kernel) ⟨Nat.le_of_ble_eq_true rfl, Nat.le_of_ble_eq_true rfl⟩) (hP.sub [0, 1, 2, 3, 4, 5, 6, 7, 8] rfl) hK hN (ci := 6) rfl rfl rfl hl.1 rfl (Nat.le_of_ble_eq_true rfl) dX6_partialNow_5 ⟨Nat.zero_le _, Nat.zero_le _⟩ (fun r hr0 => ?_)
  subst hr0
  refine lv_lmul hx hb dX6_partialNow_8 ?_
  refine lv_aload_n hx hb dX6_partialNow_9 rfl (lv_at hl 0 rfl) ?_
  refine lv_iload_n hx hb dX6_partialNow_10 rfl (lv_at hl 1 rfl) ?_
  refine roVl (As := [.int (nI g)]) (rest := [.long (100000 * (vD G g))]) (c_X6_b l dC dI cI cJ a bf ln (by omega) G n (by omega) lg lp k (by omega) rd np (by omega) M hG hL hR g (by omega)) ⟨hx, hb, hml, hown, hts⟩ (cwV 1 hts gX6_partialNow_X6_b rfl rfl rfl (by decide +kernel) ⟨Nat.le_of_ble_eq_true rfl, Nat.le_of_ble_eq_true rfl⟩) (hP.sub [0, 1, 2, 3, 4, 5, 6, 7, 8] rfl) hK hN (ci := 6) rfl rfl rfl hl.1 rfl (Nat.le_of_ble_eq_true rfl) dX6_partialNow_11 ⟨Nat.zero_le _, Nat.zero_le _⟩ (fun r hr0 => ?_)
  subst hr0
  refine lv_ldiv hx hb dX6_partialNow_14 (vB_ne hG hg) ?_
  exact W.lret hx hb hr (fun t ht hW => ⟨_, rfl, par_div hG hg, ht⟩) (fun _ h => absurd h List.not_mem_nil) dX6_partialNow_15

set_option maxHeartbeats 4000000 in
set_option maxRecDepth 100000 in
theorem c_X6_abbe (l : Launch) (dC : Nat → ClassId) (dI : Nat → Nat → Nat) (cI cJ : ClassId) (a : Nat → Nat) (bf : Nat → Int32) (ln : Nat) (hln : ln ≤ 28) (G : GL) (n : Nat) (hn : n ≤ 20) (lg lp : Nat → Int32) (k : Nat) (hk : k ≤ 8) (rd : Nat → Int32) (np : Nat) (hp : np ≤ 16) (M : MS) (hG : gOK G n) (hL : lOK lg k n) (hR : rOK rd np) (x : Int32) : Met l yX6_abbe wsX6_abbe ({ frames := 2, cells := 0, slots := 0, locals := 46 }) (va_Pc [.ref (a 0), .int x] (RO (dC, dI) (tyK cI cJ) ([(a 0, .inr (6, [.int (nI ln), .ref (a 1), .int (nI n), .ref (a 2), .ref (a 3), .int (nI k), .ref (a 4), .ref (a 5), .int (nI np), .ref (a 6), .long M.1, .ref (a 7), .int M.2.1, .int M.2.2.1, .int M.2.2.2.1, .int M.2.2.2.2.1, .ref (a 8), .long M.2.2.2.2.2.1])), (a 1, .inl (cI, 28, .inl bf)), (a 2, .inl (cJ, 20, .inr (.inl (gK G)))), (a 3, .inl (cI, 60, .inl (ilv G))), (a 4, .inl (cI, 8, .inl lg)), (a 5, .inl (cI, 8, .inl lp)), (a 6, .inl (cI, 16, .inl rd)), (a 7, .inl (cI, 3, .inl M.2.2.2.2.2.2.1)), (a 8, .inl (cJ, 3, .inr (.inl M.2.2.2.2.2.2.2)))]))) (vp_Sl (fun r => r = sAbbe G n x)) 0 0 (fun _ => False) := by
  refine Met.ofW (cc := cX6_abbe) (maxL := 2) (ret := (some .long)) (by decide) rfl ?_
  intro p e s m args below meth c s₁ B hml hv
  obtain ⟨rfl, hP, hK, hN⟩ := hv
  have hx := B.exec
  have hb := B.bytes
  have hr := B.returns
  have hts := atoms_spec (ws := wsX6_abbe) B.pre
  have hown : s.vm.findClass RX6 = some m.cls := findClass_of_methodNamed B.named
  have hlocks := B.notSynchronized
  have hP : va_P (dC, dI) vwCl [(a 0, .inr (6, [.int (nI ln), .ref (a 1), .int (nI n), .ref (a 2), .ref (a 3), .int (nI k), .ref (a 4), .ref (a 5), .int (nI np), .ref (a 6), .long M.1, .ref (a 7), .int M.2.1, .int M.2.2.1, .int M.2.2.2.1, .int M.2.2.2.2.1, .ref (a 8), .long M.2.2.2.2.2.1])), (a 1, .inl (cI, 28, .inl bf)), (a 2, .inl (cJ, 20, .inr (.inl (gK G)))), (a 3, .inl (cI, 60, .inl (ilv G))), (a 4, .inl (cI, 8, .inl lg)), (a 5, .inl (cI, 8, .inl lp)), (a 6, .inl (cI, 16, .inl rd)), (a 7, .inl (cI, 3, .inl M.2.2.2.2.2.2.1)), (a 8, .inl (cJ, 3, .inr (.inl M.2.2.2.2.2.2.2)))] s.heap := hP
  have hl := lv_entry ([.ref (a 0), .int x]) (n := 2) (Nat.le_of_ble_eq_true rfl)
  rw [lg_entry_eq]
  generalize (lg_sl ([.ref (a 0), .int x]) ++ List.replicate (2 - (lg_sl ([.ref (a 0), .int x])).length) Slot.unset).toArray = ls at hl ⊢
  have hl : lv_has ls 2 [(0, .ref (a 0)), (1, .int x)] := hl
  refine lv_aload_n hx hb dX6_abbe_0 rfl (lv_at hl 0 rfl) ?_
  refine lv_iload_n hx hb dX6_abbe_1 rfl (lv_at hl 1 rfl) ?_
  refine roVi (As := [.int x]) (rest := []) (c_X6_isGlass l dC dI cI cJ a bf ln (by omega) G n (by omega) lg lp k (by omega) rd np (by omega) M hG hL hR x) ⟨hx, hb, hml, hown, hts⟩ (cwV 1 hts gX6_abbe_X6_isGlass rfl rfl rfl (by decide +kernel) ⟨Nat.le_of_ble_eq_true rfl, Nat.le_of_ble_eq_true rfl⟩) (hP.sub [0, 1, 2, 3, 4, 5, 6, 7, 8] rfl) hK hN (ci := 6) rfl rfl rfl hl.1 rfl (Nat.le_of_ble_eq_true rfl) dX6_abbe_2 ⟨Nat.zero_le _, Nat.zero_le _⟩ (fun r hr0 => ?_)
  subst hr0
  refine rb_eq (tgt := 16) hx hb dX6_abbe_5 (by decide) (fun h5 => ?_) (fun h5 => ?_)
  · refine lv_ldc2 (v := (-9000000000000000002)) hx hb hown (hts (.constantLong RX6 104 (-9000000000000000002)) (by decide +kernel)) dX6_abbe_16 ?_
    exact W.lret hx hb hr (fun t ht hW => ⟨_, rfl, by rw [sAbbe, if_neg h5], ht⟩) (fun _ h => absurd h List.not_mem_nil) dX6_abbe_19
  · obtain ⟨g, hg, eg⟩ := hasP_ex (by omega) h5
    subst eg
    refine lv_aload_n hx hb dX6_abbe_8 rfl (lv_at hl 0 rfl) ?_
    refine lv_iload_n hx hb dX6_abbe_9 rfl (lv_at hl 1 rfl) ?_
    refine roVl (As := [.int (nI g)]) (rest := []) (c_X6_abbeNow l dC dI cI cJ a bf ln (by omega) G n (by omega) lg lp k (by omega) rd np (by omega) M hG hL hR g (by omega)) ⟨hx, hb, hml, hown, hts⟩ (cwV 1 hts gX6_abbe_X6_abbeNow rfl rfl rfl (by decide +kernel) ⟨Nat.le_of_ble_eq_true rfl, Nat.le_of_ble_eq_true rfl⟩) (hP.sub [0, 1, 2, 3, 4, 5, 6, 7, 8] rfl) hK hN (ci := 6) rfl rfl rfl hl.1 rfl (Nat.le_of_ble_eq_true rfl) dX6_abbe_10 ⟨Nat.zero_le _, Nat.zero_le _⟩ (fun r hr0 => ?_)
    subst hr0
    refine lv_goto (tgt := 19) hx hb dX6_abbe_13 (by decide) ?_
    exact W.lret hx hb hr (fun t ht hW => ⟨_, rfl, by rw [sAbbe, if_pos h5, ix_nI (by omega)], ht⟩) (fun _ h => absurd h List.not_mem_nil) dX6_abbe_19

set_option maxHeartbeats 4000000 in
set_option maxRecDepth 100000 in
theorem c_X6_partial (l : Launch) (dC : Nat → ClassId) (dI : Nat → Nat → Nat) (cI cJ : ClassId) (a : Nat → Nat) (bf : Nat → Int32) (ln : Nat) (hln : ln ≤ 28) (G : GL) (n : Nat) (hn : n ≤ 20) (lg lp : Nat → Int32) (k : Nat) (hk : k ≤ 8) (rd : Nat → Int32) (np : Nat) (hp : np ≤ 16) (M : MS) (hG : gOK G n) (hL : lOK lg k n) (hR : rOK rd np) (x : Int32) : Met l yX6_partial wsX6_partial ({ frames := 2, cells := 0, slots := 0, locals := 46 }) (va_Pc [.ref (a 0), .int x] (RO (dC, dI) (tyK cI cJ) ([(a 0, .inr (6, [.int (nI ln), .ref (a 1), .int (nI n), .ref (a 2), .ref (a 3), .int (nI k), .ref (a 4), .ref (a 5), .int (nI np), .ref (a 6), .long M.1, .ref (a 7), .int M.2.1, .int M.2.2.1, .int M.2.2.2.1, .int M.2.2.2.2.1, .ref (a 8), .long M.2.2.2.2.2.1])), (a 1, .inl (cI, 28, .inl bf)), (a 2, .inl (cJ, 20, .inr (.inl (gK G)))), (a 3, .inl (cI, 60, .inl (ilv G))), (a 4, .inl (cI, 8, .inl lg)), (a 5, .inl (cI, 8, .inl lp)), (a 6, .inl (cI, 16, .inl rd)), (a 7, .inl (cI, 3, .inl M.2.2.2.2.2.2.1)), (a 8, .inl (cJ, 3, .inr (.inl M.2.2.2.2.2.2.2)))]))) (vp_Sl (fun r => r = sPart G n x)) 0 0 (fun _ => False) := by
  refine Met.ofW (cc := cX6_partial) (maxL := 2) (ret := (some .long)) (by decide) rfl ?_
  intro p e s m args below meth c s₁ B hml hv
  obtain ⟨rfl, hP, hK, hN⟩ := hv
  have hx := B.exec
  have hb := B.bytes
  have hr := B.returns
  have hts := atoms_spec (ws := wsX6_partial) B.pre
  have hown : s.vm.findClass RX6 = some m.cls := findClass_of_methodNamed B.named
  have hlocks := B.notSynchronized
  have hP : va_P (dC, dI) vwCl [(a 0, .inr (6, [.int (nI ln), .ref (a 1), .int (nI n), .ref (a 2), .ref (a 3), .int (nI k), .ref (a 4), .ref (a 5), .int (nI np), .ref (a 6), .long M.1, .ref (a 7), .int M.2.1, .int M.2.2.1, .int M.2.2.2.1, .int M.2.2.2.2.1, .ref (a 8), .long M.2.2.2.2.2.1])), (a 1, .inl (cI, 28, .inl bf)), (a 2, .inl (cJ, 20, .inr (.inl (gK G)))), (a 3, .inl (cI, 60, .inl (ilv G))), (a 4, .inl (cI, 8, .inl lg)), (a 5, .inl (cI, 8, .inl lp)), (a 6, .inl (cI, 16, .inl rd)), (a 7, .inl (cI, 3, .inl M.2.2.2.2.2.2.1)), (a 8, .inl (cJ, 3, .inr (.inl M.2.2.2.2.2.2.2)))] s.heap := hP
  have hl := lv_entry ([.ref (a 0), .int x]) (n := 2) (Nat.le_of_ble_eq_true rfl)
  rw [lg_entry_eq]
  generalize (lg_sl ([.ref (a 0), .int x]) ++ List.replicate (2 - (lg_sl ([.ref (a 0), .int x])).length) Slot.unset).toArray = ls at hl ⊢
  have hl : lv_has ls 2 [(0, .ref (a 0)), (1, .int x)] := hl
  refine lv_aload_n hx hb dX6_partial_0 rfl (lv_at hl 0 rfl) ?_
  refine lv_iload_n hx hb dX6_partial_1 rfl (lv_at hl 1 rfl) ?_
  refine roVi (As := [.int x]) (rest := []) (c_X6_isGlass l dC dI cI cJ a bf ln (by omega) G n (by omega) lg lp k (by omega) rd np (by omega) M hG hL hR x) ⟨hx, hb, hml, hown, hts⟩ (cwV 1 hts gX6_partial_X6_isGlass rfl rfl rfl (by decide +kernel) ⟨Nat.le_of_ble_eq_true rfl, Nat.le_of_ble_eq_true rfl⟩) (hP.sub [0, 1, 2, 3, 4, 5, 6, 7, 8] rfl) hK hN (ci := 6) rfl rfl rfl hl.1 rfl (Nat.le_of_ble_eq_true rfl) dX6_partial_2 ⟨Nat.zero_le _, Nat.zero_le _⟩ (fun r hr0 => ?_)
  subst hr0
  refine rb_eq (tgt := 16) hx hb dX6_partial_5 (by decide) (fun h5 => ?_) (fun h5 => ?_)
  · refine lv_ldc2 (v := (-9000000000000000002)) hx hb hown (hts (.constantLong RX6 104 (-9000000000000000002)) (by decide +kernel)) dX6_partial_16 ?_
    exact W.lret hx hb hr (fun t ht hW => ⟨_, rfl, by rw [sPart, if_neg h5], ht⟩) (fun _ h => absurd h List.not_mem_nil) dX6_partial_19
  · obtain ⟨g, hg, eg⟩ := hasP_ex (by omega) h5
    subst eg
    refine lv_aload_n hx hb dX6_partial_8 rfl (lv_at hl 0 rfl) ?_
    refine lv_iload_n hx hb dX6_partial_9 rfl (lv_at hl 1 rfl) ?_
    refine roVl (As := [.int (nI g)]) (rest := []) (c_X6_partialNow l dC dI cI cJ a bf ln (by omega) G n (by omega) lg lp k (by omega) rd np (by omega) M hG hL hR g (by omega)) ⟨hx, hb, hml, hown, hts⟩ (cwV 1 hts gX6_partial_X6_partialNow rfl rfl rfl (by decide +kernel) ⟨Nat.le_of_ble_eq_true rfl, Nat.le_of_ble_eq_true rfl⟩) (hP.sub [0, 1, 2, 3, 4, 5, 6, 7, 8] rfl) hK hN (ci := 6) rfl rfl rfl hl.1 rfl (Nat.le_of_ble_eq_true rfl) dX6_partial_10 ⟨Nat.zero_le _, Nat.zero_le _⟩ (fun r hr0 => ?_)
    subst hr0
    refine lv_goto (tgt := 19) hx hb dX6_partial_13 (by decide) ?_
    exact W.lret hx hb hr (fun t ht hW => ⟨_, rfl, by rw [sPart, if_pos h5, ix_nI (by omega)], ht⟩) (fun _ h => absurd h List.not_mem_nil) dX6_partial_19

set_option maxHeartbeats 4000000 in
set_option maxRecDepth 100000 in
theorem c_X6_glassWithAbbe (l : Launch) (dC : Nat → ClassId) (dI : Nat → Nat → Nat) (cI cJ : ClassId) (a : Nat → Nat) (bf : Nat → Int32) (ln : Nat) (hln : ln ≤ 28) (G : GL) (n : Nat) (hn : n ≤ 20) (lg lp : Nat → Int32) (k : Nat) (hk : k ≤ 8) (rd : Nat → Int32) (np : Nat) (hp : np ≤ 16) (M : MS) (hG : gOK G n) (hL : lOK lg k n) (hR : rOK rd np) (v : Int32) : Met l yX6_glassWithAbbe wsX6_glassWithAbbe ({ frames := 2, cells := 0, slots := 0, locals := 42 }) (va_Pc [.ref (a 0), .int v] (RO (dC, dI) (tyK cI cJ) ([(a 0, .inr (6, [.int (nI ln), .ref (a 1), .int (nI n), .ref (a 2), .ref (a 3), .int (nI k), .ref (a 4), .ref (a 5), .int (nI np), .ref (a 6), .long M.1, .ref (a 7), .int M.2.1, .int M.2.2.1, .int M.2.2.2.1, .int M.2.2.2.2.1, .ref (a 8), .long M.2.2.2.2.2.1])), (a 1, .inl (cI, 28, .inl bf)), (a 2, .inl (cJ, 20, .inr (.inl (gK G)))), (a 3, .inl (cI, 60, .inl (ilv G))), (a 4, .inl (cI, 8, .inl lg)), (a 5, .inl (cI, 8, .inl lp)), (a 6, .inl (cI, 16, .inl rd)), (a 7, .inl (cI, 3, .inl M.2.2.2.2.2.2.1)), (a 8, .inl (cJ, 3, .inr (.inl M.2.2.2.2.2.2.2)))]))) (vp_Sl (fun r => r = sWith G n v)) 0 0 (fun _ => False) := by
  refine Met.ofW (cc := cX6_glassWithAbbe) (maxL := 5) (ret := (some .long)) (by decide) rfl ?_
  intro p e s m args below meth c s₁ B hml hv
  obtain ⟨rfl, hP, hK, hN⟩ := hv
  have hx := B.exec
  have hb := B.bytes
  have hr := B.returns
  have hts := atoms_spec (ws := wsX6_glassWithAbbe) B.pre
  have hown : s.vm.findClass RX6 = some m.cls := findClass_of_methodNamed B.named
  have hlocks := B.notSynchronized
  have hP : va_P (dC, dI) vwCl [(a 0, .inr (6, [.int (nI ln), .ref (a 1), .int (nI n), .ref (a 2), .ref (a 3), .int (nI k), .ref (a 4), .ref (a 5), .int (nI np), .ref (a 6), .long M.1, .ref (a 7), .int M.2.1, .int M.2.2.1, .int M.2.2.2.1, .int M.2.2.2.2.1, .ref (a 8), .long M.2.2.2.2.2.1])), (a 1, .inl (cI, 28, .inl bf)), (a 2, .inl (cJ, 20, .inr (.inl (gK G)))), (a 3, .inl (cI, 60, .inl (ilv G))), (a 4, .inl (cI, 8, .inl lg)), (a 5, .inl (cI, 8, .inl lp)), (a 6, .inl (cI, 16, .inl rd)), (a 7, .inl (cI, 3, .inl M.2.2.2.2.2.2.1)), (a 8, .inl (cJ, 3, .inr (.inl M.2.2.2.2.2.2.2)))] s.heap := hP
  have hl := lv_entry ([.ref (a 0), .int v]) (n := 5) (Nat.le_of_ble_eq_true rfl)
  rw [lg_entry_eq]
  generalize (lg_sl ([.ref (a 0), .int v]) ++ List.replicate (5 - (lg_sl ([.ref (a 0), .int v])).length) Slot.unset).toArray = ls at hl ⊢
  have hl : lv_has ls 5 [(0, .ref (a 0)), (1, .int v)] := hl
  refine lv_iconst (v := (-1)) hx hb dX6_glassWithAbbe_0 (by decide) ?_
  refine lv_istore_n (lv' := [(2, .int (-1)), (0, .ref (a 0)), (1, .int v)]) hx hb dX6_glassWithAbbe_1 rfl hl (by decide) rfl (fun ls hl => ?_)
  refine lv_iconst (v := 0) hx hb dX6_glassWithAbbe_2 (by decide) ?_
  refine lv_istore_n (lv' := [(3, .int 0), (2, .int (-1)), (0, .ref (a 0)), (1, .int v)]) hx hb dX6_glassWithAbbe_3 rfl hl (by decide) rfl (fun ls hl => ?_)
  refine rloopZ (nL := 5) 0 n (fun k z => if v.toInt64 ≤ vAbb G k ∧ (z.1 < 0 ∨ vAbb G k < z.2) then (nI k, vAbb G k) else z) ((-1 : Int32), (0 : Int64)) (fun k4 z4 => [(3, .int (nI k4)), (2, .int z4.1), (0, .ref (a 0)), (1, .int v)]) (fun k z => z.1 < 0 ∨ ∃ j, j < k ∧ z.1 = nI j ∧ z.2 = vAbb G j) (by omega) (Or.inl (by decide)) (lv_sub hl [0, 1, 2, 3] rfl) (fun k4 z4 hlo4 hk4 hz4 hI4 ls hl ih4 => ?_) (fun z4 hz4 hI4 ls hl => ?_)
  · refine lv_iload_n hx hb dX6_glassWithAbbe_4 rfl (lv_at hl 0 rfl) ?_
    refine lv_aload_n hx hb dX6_glassWithAbbe_5 rfl (lv_at hl 2 rfl) ?_
    refine va_get (D := (dC, dI)) (ci := 6) (v := .int (nI n)) (C := RX6) (T := TX6) (N := 18) hx hb hts (by decide +kernel) hown hK hP 0 rfl rfl 2 (by decide) (hts (.fieldLink RX6 35 "AchromatDeskModel" "glasses" "I") (by decide +kernel)) (fun _ h9 => h9) rfl dX6_glassWithAbbe_6 ?_
    refine rn_ge (tgt := 65) hx hb k4 n rfl rfl (by omega) (by omega) dX6_glassWithAbbe_9 (by decide) (fun h9 => ?_) (fun h9 => ?_)
    · exfalso; omega
    · refine lv_aload_n hx hb dX6_glassWithAbbe_12 rfl (lv_at hl 2 rfl) ?_
      refine lv_iload_n hx hb dX6_glassWithAbbe_13 rfl (lv_at hl 0 rfl) ?_
      refine roVl (As := [.int (nI k4)]) (rest := []) (c_X6_abbeNow l dC dI cI cJ a bf ln (by omega) G n (by omega) lg lp k (by omega) rd np (by omega) M hG hL hR k4 (by omega)) ⟨hx, hb, hml, hown, hts⟩ (cwV 1 hts gX6_glassWithAbbe_X6_abbeNow rfl rfl rfl (by decide +kernel) ⟨Nat.le_of_ble_eq_true rfl, Nat.le_of_ble_eq_true rfl⟩) (hP.sub [0, 1, 2, 3, 4, 5, 6, 7, 8] rfl) hK hN (ci := 6) rfl rfl rfl hl.1 rfl (Nat.le_of_ble_eq_true rfl) dX6_glassWithAbbe_14 ⟨Nat.zero_le _, Nat.zero_le _⟩ (fun r hr0 => ?_)
      subst hr0
      refine lv_iload_n hx hb dX6_glassWithAbbe_17 rfl (lv_at hl 3 rfl) ?_
      refine lv_i2l (v := v.toInt64) hx hb dX6_glassWithAbbe_18 rfl ?_
      refine rl_iflt (tgt := 45) hx hb dX6_glassWithAbbe_19 dX6_glassWithAbbe_20 (by decide) (fun h19 => ?_) (fun h19 => ?_)
      · refine lv_iconst (v := 0) hx hb dX6_glassWithAbbe_45 (by decide) ?_
        refine lv_istore (lv' := [(4, .int 0), (3, .int (nI k4)), (2, .int z4.1), (0, .ref (a 0)), (1, .int v)]) hx hb dX6_glassWithAbbe_46 hl (by decide) rfl (fun ls hl => ?_)
        refine lv_iload hx hb dX6_glassWithAbbe_48 (lv_at hl 0 rfl) ?_
        refine rz_eq (tgt := 57) hx hb 0 rfl (by omega) dX6_glassWithAbbe_50 (by decide) (fun h50 => ?_) (fun h50 => ?_)
        · refine lv_iload_n hx hb dX6_glassWithAbbe_57 rfl (lv_at hl 2 rfl) ?_
          refine lv_istore_n (lv' := [(2, .int z4.1), (4, .int 0), (3, .int (nI k4)), (0, .ref (a 0)), (1, .int v)]) hx hb dX6_glassWithAbbe_58 rfl hl (by decide) rfl (fun ls hl => ?_)
          refine lv_iinc (v := nI (k4 + 1)) (lv' := [(3, .int (nI (k4 + 1))), (2, .int z4.1), (4, .int 0), (0, .ref (a 0)), (1, .int v)]) hx hb dX6_glassWithAbbe_59 hl (k := 2) rfl (by first | rfl | exact nI_add _ _) (by decide) rfl (fun ls hl => ?_)
          refine lv_goto (tgt := 4) hx hb dX6_glassWithAbbe_62 (by decide) ?_
          exact ih4 z4 ((if_neg (fun w => absurd w.1 (Int64.not_le.mpr h19))).symm) (hI4.imp id (fun ⟨j, h1, h2⟩ => ⟨j, by omega, h2⟩)) ls (lv_sub hl [0, 1, 3, 4] rfl)
        · exact absurd h50 (by decide)
      · refine lv_iload_n hx hb dX6_glassWithAbbe_23 rfl (lv_at hl 1 rfl) ?_
        refine lv_if_lt (tgt := 41) hx hb dX6_glassWithAbbe_24 (by decide) (fun h24 => ?_) (fun h24 => ?_)
        · refine lv_iconst (v := 1) hx hb dX6_glassWithAbbe_41 (by decide) ?_
          refine lv_goto (tgt := 46) hx hb dX6_glassWithAbbe_42 (by decide) ?_
          refine lv_istore (lv' := [(4, .int 1), (3, .int (nI k4)), (2, .int z4.1), (0, .ref (a 0)), (1, .int v)]) hx hb dX6_glassWithAbbe_46 hl (by decide) rfl (fun ls hl => ?_)
          refine lv_iload hx hb dX6_glassWithAbbe_48 (lv_at hl 0 rfl) ?_
          refine rz_eq (tgt := 57) hx hb 1 rfl (by omega) dX6_glassWithAbbe_50 (by decide) (fun h50 => ?_) (fun h50 => ?_)
          · exact absurd h50 (by decide)
          · refine lv_iload_n hx hb dX6_glassWithAbbe_53 rfl (lv_at hl 1 rfl) ?_
            refine lv_goto (tgt := 58) hx hb dX6_glassWithAbbe_54 (by decide) ?_
            refine lv_istore_n (lv' := [(2, .int (nI k4)), (4, .int 1), (3, .int (nI k4)), (0, .ref (a 0)), (1, .int v)]) hx hb dX6_glassWithAbbe_58 rfl hl (by decide) rfl (fun ls hl => ?_)
            refine lv_iinc (v := nI (k4 + 1)) (lv' := [(3, .int (nI (k4 + 1))), (2, .int (nI k4)), (4, .int 1), (0, .ref (a 0)), (1, .int v)]) hx hb dX6_glassWithAbbe_59 hl (k := 2) rfl (by first | rfl | exact nI_add _ _) (by decide) rfl (fun ls hl => ?_)
            refine lv_goto (tgt := 4) hx hb dX6_glassWithAbbe_62 (by decide) ?_
            exact ih4 (nI k4, vAbb G k4) ((if_pos ⟨Int64.not_lt.mp h19, Or.inl h24⟩).symm) (Or.inr ⟨k4, by omega, rfl, rfl⟩) ls (lv_sub hl [0, 1, 3, 4] rfl)
        · obtain ⟨j4, hj4, ej4, ev4⟩ := hI4.resolve_left h24
          refine lv_aload_n hx hb dX6_glassWithAbbe_27 rfl (lv_at hl 2 rfl) ?_
          refine lv_iload_n hx hb dX6_glassWithAbbe_28 rfl (lv_at hl 0 rfl) ?_
          refine roVl (As := [.int (nI k4)]) (rest := []) (c_X6_abbeNow l dC dI cI cJ a bf ln (by omega) G n (by omega) lg lp k (by omega) rd np (by omega) M hG hL hR k4 (by omega)) ⟨hx, hb, hml, hown, hts⟩ (cwV 1 hts gX6_glassWithAbbe_X6_abbeNow rfl rfl rfl (by decide +kernel) ⟨Nat.le_of_ble_eq_true rfl, Nat.le_of_ble_eq_true rfl⟩) (hP.sub [0, 1, 2, 3, 4, 5, 6, 7, 8] rfl) hK hN (ci := 6) rfl rfl rfl hl.1 rfl (Nat.le_of_ble_eq_true rfl) dX6_glassWithAbbe_29 ⟨Nat.zero_le _, Nat.zero_le _⟩ (fun r hr0 => ?_)
          subst hr0
          refine lv_aload_n hx hb dX6_glassWithAbbe_32 rfl (lv_at hl 2 rfl) ?_
          refine lv_iload_n hx hb dX6_glassWithAbbe_33 rfl (lv_at hl 1 rfl) ?_
          refine rw_topi (show (z4.1 : Int32) = (nI j4 : Int32) from ej4) ?_
          refine roVl (As := [.int (nI j4)]) (rest := [.long (vAbb G k4)]) (c_X6_abbeNow l dC dI cI cJ a bf ln (by omega) G n (by omega) lg lp k (by omega) rd np (by omega) M hG hL hR j4 (by omega)) ⟨hx, hb, hml, hown, hts⟩ (cwV 1 hts gX6_glassWithAbbe_X6_abbeNow rfl rfl rfl (by decide +kernel) ⟨Nat.le_of_ble_eq_true rfl, Nat.le_of_ble_eq_true rfl⟩) (hP.sub [0, 1, 2, 3, 4, 5, 6, 7, 8] rfl) hK hN (ci := 6) rfl rfl rfl hl.1 rfl (Nat.le_of_ble_eq_true rfl) dX6_glassWithAbbe_34 ⟨Nat.zero_le _, Nat.zero_le _⟩ (fun r hr0 => ?_)
          subst hr0
          refine rw_topl (show (vAbb G j4 : Int64) = (z4.2 : Int64) from ev4.symm) ?_
          refine rl_ifge (tgt := 45) hx hb dX6_glassWithAbbe_37 dX6_glassWithAbbe_38 (by decide) (fun h37 => ?_) (fun h37 => ?_)
          · refine lv_iconst (v := 0) hx hb dX6_glassWithAbbe_45 (by decide) ?_
            refine lv_istore (lv' := [(4, .int 0), (3, .int (nI k4)), (2, .int z4.1), (0, .ref (a 0)), (1, .int v)]) hx hb dX6_glassWithAbbe_46 hl (by decide) rfl (fun ls hl => ?_)
            refine lv_iload hx hb dX6_glassWithAbbe_48 (lv_at hl 0 rfl) ?_
            refine rz_eq (tgt := 57) hx hb 0 rfl (by omega) dX6_glassWithAbbe_50 (by decide) (fun h50 => ?_) (fun h50 => ?_)
            · refine lv_iload_n hx hb dX6_glassWithAbbe_57 rfl (lv_at hl 2 rfl) ?_
              refine lv_istore_n (lv' := [(2, .int z4.1), (4, .int 0), (3, .int (nI k4)), (0, .ref (a 0)), (1, .int v)]) hx hb dX6_glassWithAbbe_58 rfl hl (by decide) rfl (fun ls hl => ?_)
              refine lv_iinc (v := nI (k4 + 1)) (lv' := [(3, .int (nI (k4 + 1))), (2, .int z4.1), (4, .int 0), (0, .ref (a 0)), (1, .int v)]) hx hb dX6_glassWithAbbe_59 hl (k := 2) rfl (by first | rfl | exact nI_add _ _) (by decide) rfl (fun ls hl => ?_)
              refine lv_goto (tgt := 4) hx hb dX6_glassWithAbbe_62 (by decide) ?_
              exact ih4 z4 ((if_neg (fun w => w.2.elim h24 h37)).symm) (hI4.imp id (fun ⟨j, h1, h2⟩ => ⟨j, by omega, h2⟩)) ls (lv_sub hl [0, 1, 3, 4] rfl)
            · exact absurd h50 (by decide)
          · refine lv_iconst (v := 1) hx hb dX6_glassWithAbbe_41 (by decide) ?_
            refine lv_goto (tgt := 46) hx hb dX6_glassWithAbbe_42 (by decide) ?_
            refine lv_istore (lv' := [(4, .int 1), (3, .int (nI k4)), (2, .int z4.1), (0, .ref (a 0)), (1, .int v)]) hx hb dX6_glassWithAbbe_46 hl (by decide) rfl (fun ls hl => ?_)
            refine lv_iload hx hb dX6_glassWithAbbe_48 (lv_at hl 0 rfl) ?_
            refine rz_eq (tgt := 57) hx hb 1 rfl (by omega) dX6_glassWithAbbe_50 (by decide) (fun h50 => ?_) (fun h50 => ?_)
            · exact absurd h50 (by decide)
            · refine lv_iload_n hx hb dX6_glassWithAbbe_53 rfl (lv_at hl 1 rfl) ?_
              refine lv_goto (tgt := 58) hx hb dX6_glassWithAbbe_54 (by decide) ?_
              refine lv_istore_n (lv' := [(2, .int (nI k4)), (4, .int 1), (3, .int (nI k4)), (0, .ref (a 0)), (1, .int v)]) hx hb dX6_glassWithAbbe_58 rfl hl (by decide) rfl (fun ls hl => ?_)
              refine lv_iinc (v := nI (k4 + 1)) (lv' := [(3, .int (nI (k4 + 1))), (2, .int (nI k4)), (4, .int 1), (0, .ref (a 0)), (1, .int v)]) hx hb dX6_glassWithAbbe_59 hl (k := 2) rfl (by first | rfl | exact nI_add _ _) (by decide) rfl (fun ls hl => ?_)
              refine lv_goto (tgt := 4) hx hb dX6_glassWithAbbe_62 (by decide) ?_
              exact ih4 (nI k4, vAbb G k4) ((if_pos ⟨Int64.not_lt.mp h19, Or.inr h37⟩).symm) (Or.inr ⟨k4, by omega, rfl, rfl⟩) ls (lv_sub hl [0, 1, 3, 4] rfl)
  · refine lv_iload_n hx hb dX6_glassWithAbbe_4 rfl (lv_at hl 0 rfl) ?_
    refine lv_aload_n hx hb dX6_glassWithAbbe_5 rfl (lv_at hl 2 rfl) ?_
    refine va_get (D := (dC, dI)) (ci := 6) (v := .int (nI n)) (C := RX6) (T := TX6) (N := 18) hx hb hts (by decide +kernel) hown hK hP 0 rfl rfl 2 (by decide) (hts (.fieldLink RX6 35 "AchromatDeskModel" "glasses" "I") (by decide +kernel)) (fun _ h9 => h9) rfl dX6_glassWithAbbe_6 ?_
    refine rn_ge (tgt := 65) hx hb n n rfl rfl (by omega) (by omega) dX6_glassWithAbbe_9 (by decide) (fun h9 => ?_) (fun h9 => ?_)
    · refine lv_iload_n hx hb dX6_glassWithAbbe_65 rfl (lv_at hl 1 rfl) ?_
      refine lv_if_ge (tgt := 75) hx hb dX6_glassWithAbbe_66 (by decide) (fun h66 => ?_) (fun h66 => ?_)
      · refine lv_iload_n hx hb dX6_glassWithAbbe_75 rfl (lv_at hl 1 rfl) ?_
        refine lv_i2l (v := z4.1.toInt64) hx hb dX6_glassWithAbbe_76 rfl ?_
        exact W.lret hx hb hr (fun t ht hW => ⟨_, rfl, by first | rw [sWith, lAbb, ← hz4, if_neg (Int32.not_lt.mpr h66)] | rw [sWith, lAbb, ← hz4, if_pos (Int32.not_le.mp h66)], ht⟩) (fun _ h => absurd h List.not_mem_nil) dX6_glassWithAbbe_77
      · refine lv_ldc2 (v := (-9000000000000000008)) hx hb hown (hts (.constantLong RX6 134 (-9000000000000000008)) (by decide +kernel)) dX6_glassWithAbbe_69 ?_
        refine lv_goto (tgt := 77) hx hb dX6_glassWithAbbe_72 (by decide) ?_
        exact W.lret hx hb hr (fun t ht hW => ⟨_, rfl, by first | rw [sWith, lAbb, ← hz4, if_neg (Int32.not_lt.mpr h66)] | rw [sWith, lAbb, ← hz4, if_pos (Int32.not_le.mp h66)], ht⟩) (fun _ h => absurd h List.not_mem_nil) dX6_glassWithAbbe_77
    · exfalso; omega

set_option maxHeartbeats 4000000 in
set_option maxRecDepth 100000 in
theorem c_X6_e (l : Launch) (dC : Nat → ClassId) (dI : Nat → Nat → Nat) (cI cJ : ClassId) (a : Nat → Nat) (bf : Nat → Int32) (ln : Nat) (hln : ln ≤ 28) (G : GL) (n : Nat) (hn : n ≤ 20) (lg lp : Nat → Int32) (k : Nat) (hk : k ≤ 8) (rd : Nat → Int32) (np : Nat) (hp : np ≤ 16) (M : MS) (hG : gOK G n) (hL : lOK lg k n) (hR : rOK rd np) (i j : Nat) (hi : i < n) (hj : j < n) : Met l yX6_e wsX6_e ({ frames := 1, cells := 0, slots := 0, locals := 21 }) (va_Pc [.ref (a 0), .int (nI i), .int (nI j)] (RO (dC, dI) (tyK cI cJ) ([(a 0, .inr (6, [.int (nI ln), .ref (a 1), .int (nI n), .ref (a 2), .ref (a 3), .int (nI k), .ref (a 4), .ref (a 5), .int (nI np), .ref (a 6), .long M.1, .ref (a 7), .int M.2.1, .int M.2.2.1, .int M.2.2.2.1, .int M.2.2.2.2.1, .ref (a 8), .long M.2.2.2.2.2.1])), (a 1, .inl (cI, 28, .inl bf)), (a 2, .inl (cJ, 20, .inr (.inl (gK G)))), (a 3, .inl (cI, 60, .inl (ilv G))), (a 4, .inl (cI, 8, .inl lg)), (a 5, .inl (cI, 8, .inl lp)), (a 6, .inl (cI, 16, .inl rd)), (a 7, .inl (cI, 3, .inl M.2.2.2.2.2.2.1)), (a 8, .inl (cJ, 3, .inr (.inl M.2.2.2.2.2.2.2)))]))) (vp_Sl (fun r => r = vE G i j)) 0 0 (fun _ => False) := by
  refine Met.ofW (cc := cX6_e) (maxL := 3) (ret := (some .long)) (by decide) rfl ?_
  intro p e s m args below meth c s₁ B hml hv
  obtain ⟨rfl, hP, hK, hN⟩ := hv
  have hx := B.exec
  have hb := B.bytes
  have hr := B.returns
  have hts := atoms_spec (ws := wsX6_e) B.pre
  have hown : s.vm.findClass RX6 = some m.cls := findClass_of_methodNamed B.named
  have hlocks := B.notSynchronized
  have hP : va_P (dC, dI) vwCl [(a 0, .inr (6, [.int (nI ln), .ref (a 1), .int (nI n), .ref (a 2), .ref (a 3), .int (nI k), .ref (a 4), .ref (a 5), .int (nI np), .ref (a 6), .long M.1, .ref (a 7), .int M.2.1, .int M.2.2.1, .int M.2.2.2.1, .int M.2.2.2.2.1, .ref (a 8), .long M.2.2.2.2.2.1])), (a 1, .inl (cI, 28, .inl bf)), (a 2, .inl (cJ, 20, .inr (.inl (gK G)))), (a 3, .inl (cI, 60, .inl (ilv G))), (a 4, .inl (cI, 8, .inl lg)), (a 5, .inl (cI, 8, .inl lp)), (a 6, .inl (cI, 16, .inl rd)), (a 7, .inl (cI, 3, .inl M.2.2.2.2.2.2.1)), (a 8, .inl (cJ, 3, .inr (.inl M.2.2.2.2.2.2.2)))] s.heap := hP
  have hl := lv_entry ([.ref (a 0), .int (nI i), .int (nI j)]) (n := 3) (Nat.le_of_ble_eq_true rfl)
  rw [lg_entry_eq]
  generalize (lg_sl ([.ref (a 0), .int (nI i), .int (nI j)]) ++ List.replicate (3 - (lg_sl ([.ref (a 0), .int (nI i), .int (nI j)])).length) Slot.unset).toArray = ls at hl ⊢
  have hl : lv_has ls 3 [(0, .ref (a 0)), (1, .int (nI i)), (2, .int (nI j))] := hl
  refine lv_aload_n hx hb dX6_e_0 rfl (lv_at hl 0 rfl) ?_
  refine lv_iload_n hx hb dX6_e_1 rfl (lv_at hl 1 rfl) ?_
  refine roVl (As := [.int (nI i)]) (rest := []) (c_X6_a l dC dI cI cJ a bf ln (by omega) G n (by omega) lg lp k (by omega) rd np (by omega) M hG hL hR i (by omega)) ⟨hx, hb, hml, hown, hts⟩ (cwV 1 hts gX6_e_X6_a rfl rfl rfl (by decide +kernel) ⟨Nat.le_of_ble_eq_true rfl, Nat.le_of_ble_eq_true rfl⟩) (hP.sub [0, 1, 2, 3, 4, 5, 6, 7, 8] rfl) hK hN (ci := 6) rfl rfl rfl hl.1 rfl (Nat.le_of_ble_eq_true rfl) dX6_e_2 ⟨Nat.zero_le _, Nat.zero_le _⟩ (fun r hr0 => ?_)
  subst hr0
  refine lv_aload_n hx hb dX6_e_5 rfl (lv_at hl 0 rfl) ?_
  refine lv_iload_n hx hb dX6_e_6 rfl (lv_at hl 2 rfl) ?_
  refine roVl (As := [.int (nI j)]) (rest := [.long (vA G i)]) (c_X6_b l dC dI cI cJ a bf ln (by omega) G n (by omega) lg lp k (by omega) rd np (by omega) M hG hL hR j (by omega)) ⟨hx, hb, hml, hown, hts⟩ (cwV 1 hts gX6_e_X6_b rfl rfl rfl (by decide +kernel) ⟨Nat.le_of_ble_eq_true rfl, Nat.le_of_ble_eq_true rfl⟩) (hP.sub [0, 1, 2, 3, 4, 5, 6, 7, 8] rfl) hK hN (ci := 6) rfl rfl rfl hl.1 rfl (Nat.le_of_ble_eq_true rfl) dX6_e_7 ⟨Nat.zero_le _, Nat.zero_le _⟩ (fun r hr0 => ?_)
  subst hr0
  refine lv_lmul hx hb dX6_e_10 ?_
  refine lv_aload_n hx hb dX6_e_11 rfl (lv_at hl 0 rfl) ?_
  refine lv_iload_n hx hb dX6_e_12 rfl (lv_at hl 2 rfl) ?_
  refine roVl (As := [.int (nI j)]) (rest := [.long ((vA G i) * (vB G j))]) (c_X6_a l dC dI cI cJ a bf ln (by omega) G n (by omega) lg lp k (by omega) rd np (by omega) M hG hL hR j (by omega)) ⟨hx, hb, hml, hown, hts⟩ (cwV 1 hts gX6_e_X6_a rfl rfl rfl (by decide +kernel) ⟨Nat.le_of_ble_eq_true rfl, Nat.le_of_ble_eq_true rfl⟩) (hP.sub [0, 1, 2, 3, 4, 5, 6, 7, 8] rfl) hK hN (ci := 6) rfl rfl rfl hl.1 rfl (Nat.le_of_ble_eq_true rfl) dX6_e_13 ⟨Nat.zero_le _, Nat.zero_le _⟩ (fun r hr0 => ?_)
  subst hr0
  refine lv_aload_n hx hb dX6_e_16 rfl (lv_at hl 0 rfl) ?_
  refine lv_iload_n hx hb dX6_e_17 rfl (lv_at hl 1 rfl) ?_
  refine roVl (As := [.int (nI i)]) (rest := [.long (vA G j), .long ((vA G i) * (vB G j))]) (c_X6_b l dC dI cI cJ a bf ln (by omega) G n (by omega) lg lp k (by omega) rd np (by omega) M hG hL hR i (by omega)) ⟨hx, hb, hml, hown, hts⟩ (cwV 1 hts gX6_e_X6_b rfl rfl rfl (by decide +kernel) ⟨Nat.le_of_ble_eq_true rfl, Nat.le_of_ble_eq_true rfl⟩) (hP.sub [0, 1, 2, 3, 4, 5, 6, 7, 8] rfl) hK hN (ci := 6) rfl rfl rfl hl.1 rfl (Nat.le_of_ble_eq_true rfl) dX6_e_18 ⟨Nat.zero_le _, Nat.zero_le _⟩ (fun r hr0 => ?_)
  subst hr0
  refine lv_lmul hx hb dX6_e_21 ?_
  refine lv_lsub hx hb dX6_e_22 ?_
  exact W.lret hx hb hr (fun t ht hW => ⟨_, rfl, rfl, ht⟩) (fun _ h => absurd h List.not_mem_nil) dX6_e_23

set_option maxHeartbeats 4000000 in
set_option maxRecDepth 100000 in
theorem c_X6_x (l : Launch) (dC : Nat → ClassId) (dI : Nat → Nat → Nat) (cI cJ : ClassId) (a : Nat → Nat) (bf : Nat → Int32) (ln : Nat) (hln : ln ≤ 28) (G : GL) (n : Nat) (hn : n ≤ 20) (lg lp : Nat → Int32) (k : Nat) (hk : k ≤ 8) (rd : Nat → Int32) (np : Nat) (hp : np ≤ 16) (M : MS) (hG : gOK G n) (hL : lOK lg k n) (hR : rOK rd np) (i j : Nat) (hi : i < n) (hj : j < n) : Met l yX6_x wsX6_x ({ frames := 1, cells := 0, slots := 0, locals := 21 }) (va_Pc [.ref (a 0), .int (nI i), .int (nI j)] (RO (dC, dI) (tyK cI cJ) ([(a 0, .inr (6, [.int (nI ln), .ref (a 1), .int (nI n), .ref (a 2), .ref (a 3), .int (nI k), .ref (a 4), .ref (a 5), .int (nI np), .ref (a 6), .long M.1, .ref (a 7), .int M.2.1, .int M.2.2.1, .int M.2.2.2.1, .int M.2.2.2.2.1, .ref (a 8), .long M.2.2.2.2.2.1])), (a 1, .inl (cI, 28, .inl bf)), (a 2, .inl (cJ, 20, .inr (.inl (gK G)))), (a 3, .inl (cI, 60, .inl (ilv G))), (a 4, .inl (cI, 8, .inl lg)), (a 5, .inl (cI, 8, .inl lp)), (a 6, .inl (cI, 16, .inl rd)), (a 7, .inl (cI, 3, .inl M.2.2.2.2.2.2.1)), (a 8, .inl (cJ, 3, .inr (.inl M.2.2.2.2.2.2.2)))]))) (vp_Sl (fun r => r = vX G i j)) 0 0 (fun _ => False) := by
  refine Met.ofW (cc := cX6_x) (maxL := 3) (ret := (some .long)) (by decide) rfl ?_
  intro p e s m args below meth c s₁ B hml hv
  obtain ⟨rfl, hP, hK, hN⟩ := hv
  have hx := B.exec
  have hb := B.bytes
  have hr := B.returns
  have hts := atoms_spec (ws := wsX6_x) B.pre
  have hown : s.vm.findClass RX6 = some m.cls := findClass_of_methodNamed B.named
  have hlocks := B.notSynchronized
  have hP : va_P (dC, dI) vwCl [(a 0, .inr (6, [.int (nI ln), .ref (a 1), .int (nI n), .ref (a 2), .ref (a 3), .int (nI k), .ref (a 4), .ref (a 5), .int (nI np), .ref (a 6), .long M.1, .ref (a 7), .int M.2.1, .int M.2.2.1, .int M.2.2.2.1, .int M.2.2.2.2.1, .ref (a 8), .long M.2.2.2.2.2.1])), (a 1, .inl (cI, 28, .inl bf)), (a 2, .inl (cJ, 20, .inr (.inl (gK G)))), (a 3, .inl (cI, 60, .inl (ilv G))), (a 4, .inl (cI, 8, .inl lg)), (a 5, .inl (cI, 8, .inl lp)), (a 6, .inl (cI, 16, .inl rd)), (a 7, .inl (cI, 3, .inl M.2.2.2.2.2.2.1)), (a 8, .inl (cJ, 3, .inr (.inl M.2.2.2.2.2.2.2)))] s.heap := hP
  have hl := lv_entry ([.ref (a 0), .int (nI i), .int (nI j)]) (n := 3) (Nat.le_of_ble_eq_true rfl)
  rw [lg_entry_eq]
  generalize (lg_sl ([.ref (a 0), .int (nI i), .int (nI j)]) ++ List.replicate (3 - (lg_sl ([.ref (a 0), .int (nI i), .int (nI j)])).length) Slot.unset).toArray = ls at hl ⊢
  have hl : lv_has ls 3 [(0, .ref (a 0)), (1, .int (nI i)), (2, .int (nI j))] := hl
  refine lv_aload_n hx hb dX6_x_0 rfl (lv_at hl 0 rfl) ?_
  refine lv_iload_n hx hb dX6_x_1 rfl (lv_at hl 1 rfl) ?_
  refine roVl (As := [.int (nI i)]) (rest := []) (c_X6_b l dC dI cI cJ a bf ln (by omega) G n (by omega) lg lp k (by omega) rd np (by omega) M hG hL hR i (by omega)) ⟨hx, hb, hml, hown, hts⟩ (cwV 1 hts gX6_x_X6_b rfl rfl rfl (by decide +kernel) ⟨Nat.le_of_ble_eq_true rfl, Nat.le_of_ble_eq_true rfl⟩) (hP.sub [0, 1, 2, 3, 4, 5, 6, 7, 8] rfl) hK hN (ci := 6) rfl rfl rfl hl.1 rfl (Nat.le_of_ble_eq_true rfl) dX6_x_2 ⟨Nat.zero_le _, Nat.zero_le _⟩ (fun r hr0 => ?_)
  subst hr0
  refine lv_aload_n hx hb dX6_x_5 rfl (lv_at hl 0 rfl) ?_
  refine lv_iload_n hx hb dX6_x_6 rfl (lv_at hl 2 rfl) ?_
  refine roVl (As := [.int (nI j)]) (rest := [.long (vB G i)]) (c_X6_d l dC dI cI cJ a bf ln (by omega) G n (by omega) lg lp k (by omega) rd np (by omega) M hG hL hR j (by omega)) ⟨hx, hb, hml, hown, hts⟩ (cwV 1 hts gX6_x_X6_d rfl rfl rfl (by decide +kernel) ⟨Nat.le_of_ble_eq_true rfl, Nat.le_of_ble_eq_true rfl⟩) (hP.sub [0, 1, 2, 3, 4, 5, 6, 7, 8] rfl) hK hN (ci := 6) rfl rfl rfl hl.1 rfl (Nat.le_of_ble_eq_true rfl) dX6_x_7 ⟨Nat.zero_le _, Nat.zero_le _⟩ (fun r hr0 => ?_)
  subst hr0
  refine lv_lmul hx hb dX6_x_10 ?_
  refine lv_aload_n hx hb dX6_x_11 rfl (lv_at hl 0 rfl) ?_
  refine lv_iload_n hx hb dX6_x_12 rfl (lv_at hl 2 rfl) ?_
  refine roVl (As := [.int (nI j)]) (rest := [.long ((vB G i) * (vD G j))]) (c_X6_b l dC dI cI cJ a bf ln (by omega) G n (by omega) lg lp k (by omega) rd np (by omega) M hG hL hR j (by omega)) ⟨hx, hb, hml, hown, hts⟩ (cwV 1 hts gX6_x_X6_b rfl rfl rfl (by decide +kernel) ⟨Nat.le_of_ble_eq_true rfl, Nat.le_of_ble_eq_true rfl⟩) (hP.sub [0, 1, 2, 3, 4, 5, 6, 7, 8] rfl) hK hN (ci := 6) rfl rfl rfl hl.1 rfl (Nat.le_of_ble_eq_true rfl) dX6_x_13 ⟨Nat.zero_le _, Nat.zero_le _⟩ (fun r hr0 => ?_)
  subst hr0
  refine lv_aload_n hx hb dX6_x_16 rfl (lv_at hl 0 rfl) ?_
  refine lv_iload_n hx hb dX6_x_17 rfl (lv_at hl 1 rfl) ?_
  refine roVl (As := [.int (nI i)]) (rest := [.long (vB G j), .long ((vB G i) * (vD G j))]) (c_X6_d l dC dI cI cJ a bf ln (by omega) G n (by omega) lg lp k (by omega) rd np (by omega) M hG hL hR i (by omega)) ⟨hx, hb, hml, hown, hts⟩ (cwV 1 hts gX6_x_X6_d rfl rfl rfl (by decide +kernel) ⟨Nat.le_of_ble_eq_true rfl, Nat.le_of_ble_eq_true rfl⟩) (hP.sub [0, 1, 2, 3, 4, 5, 6, 7, 8] rfl) hK hN (ci := 6) rfl rfl rfl hl.1 rfl (Nat.le_of_ble_eq_true rfl) dX6_x_18 ⟨Nat.zero_le _, Nat.zero_le _⟩ (fun r hr0 => ?_)
  subst hr0
  refine lv_lmul hx hb dX6_x_21 ?_
  refine lv_lsub hx hb dX6_x_22 ?_
  exact W.lret hx hb hr (fun t ht hW => ⟨_, rfl, rfl, ht⟩) (fun _ h => absurd h List.not_mem_nil) dX6_x_23

set_option maxHeartbeats 4000000 in
set_option maxRecDepth 100000 in
theorem c_X6_strain (l : Launch) (dC : Nat → ClassId) (dI : Nat → Nat → Nat) (cI cJ : ClassId) (a : Nat → Nat) (bf : Nat → Int32) (ln : Nat) (hln : ln ≤ 28) (G : GL) (n : Nat) (hn : n ≤ 20) (lg lp : Nat → Int32) (k : Nat) (hk : k ≤ 8) (rd : Nat → Int32) (np : Nat) (hp : np ≤ 16) (M : MS) (hG : gOK G n) (hL : lOK lg k n) (hR : rOK rd np) (i j : Nat) (hi : i < n) (hj : j < n) : Met l yX6_strain wsX6_strain ({ frames := 1, cells := 0, slots := 0, locals := 21 }) (va_Pc [.ref (a 0), .int (nI i), .int (nI j)] (RO (dC, dI) (tyK cI cJ) ([(a 0, .inr (6, [.int (nI ln), .ref (a 1), .int (nI n), .ref (a 2), .ref (a 3), .int (nI k), .ref (a 4), .ref (a 5), .int (nI np), .ref (a 6), .long M.1, .ref (a 7), .int M.2.1, .int M.2.2.1, .int M.2.2.2.1, .int M.2.2.2.2.1, .ref (a 8), .long M.2.2.2.2.2.1])), (a 1, .inl (cI, 28, .inl bf)), (a 2, .inl (cJ, 20, .inr (.inl (gK G)))), (a 3, .inl (cI, 60, .inl (ilv G))), (a 4, .inl (cI, 8, .inl lg)), (a 5, .inl (cI, 8, .inl lp)), (a 6, .inl (cI, 16, .inl rd)), (a 7, .inl (cI, 3, .inl M.2.2.2.2.2.2.1)), (a 8, .inl (cJ, 3, .inr (.inl M.2.2.2.2.2.2.2)))]))) (vp_Sl (fun r => r = vStr G i j)) 0 0 (fun _ => False) := by
  refine Met.ofW (cc := cX6_strain) (maxL := 3) (ret := (some .long)) (by decide) rfl ?_
  intro p e s m args below meth c s₁ B hml hv
  obtain ⟨rfl, hP, hK, hN⟩ := hv
  have hx := B.exec
  have hb := B.bytes
  have hr := B.returns
  have hts := atoms_spec (ws := wsX6_strain) B.pre
  have hown : s.vm.findClass RX6 = some m.cls := findClass_of_methodNamed B.named
  have hlocks := B.notSynchronized
  have hP : va_P (dC, dI) vwCl [(a 0, .inr (6, [.int (nI ln), .ref (a 1), .int (nI n), .ref (a 2), .ref (a 3), .int (nI k), .ref (a 4), .ref (a 5), .int (nI np), .ref (a 6), .long M.1, .ref (a 7), .int M.2.1, .int M.2.2.1, .int M.2.2.2.1, .int M.2.2.2.2.1, .ref (a 8), .long M.2.2.2.2.2.1])), (a 1, .inl (cI, 28, .inl bf)), (a 2, .inl (cJ, 20, .inr (.inl (gK G)))), (a 3, .inl (cI, 60, .inl (ilv G))), (a 4, .inl (cI, 8, .inl lg)), (a 5, .inl (cI, 8, .inl lp)), (a 6, .inl (cI, 16, .inl rd)), (a 7, .inl (cI, 3, .inl M.2.2.2.2.2.2.1)), (a 8, .inl (cJ, 3, .inr (.inl M.2.2.2.2.2.2.2)))] s.heap := hP
  have hl := lv_entry ([.ref (a 0), .int (nI i), .int (nI j)]) (n := 3) (Nat.le_of_ble_eq_true rfl)
  rw [lg_entry_eq]
  generalize (lg_sl ([.ref (a 0), .int (nI i), .int (nI j)]) ++ List.replicate (3 - (lg_sl ([.ref (a 0), .int (nI i), .int (nI j)])).length) Slot.unset).toArray = ls at hl ⊢
  have hl : lv_has ls 3 [(0, .ref (a 0)), (1, .int (nI i)), (2, .int (nI j))] := hl
  refine lv_aload_n hx hb dX6_strain_0 rfl (lv_at hl 0 rfl) ?_
  refine lv_iload_n hx hb dX6_strain_1 rfl (lv_at hl 1 rfl) ?_
  refine roVl (As := [.int (nI i)]) (rest := []) (c_X6_a l dC dI cI cJ a bf ln (by omega) G n (by omega) lg lp k (by omega) rd np (by omega) M hG hL hR i (by omega)) ⟨hx, hb, hml, hown, hts⟩ (cwV 1 hts gX6_strain_X6_a rfl rfl rfl (by decide +kernel) ⟨Nat.le_of_ble_eq_true rfl, Nat.le_of_ble_eq_true rfl⟩) (hP.sub [0, 1, 2, 3, 4, 5, 6, 7, 8] rfl) hK hN (ci := 6) rfl rfl rfl hl.1 rfl (Nat.le_of_ble_eq_true rfl) dX6_strain_2 ⟨Nat.zero_le _, Nat.zero_le _⟩ (fun r hr0 => ?_)
  subst hr0
  refine lv_aload_n hx hb dX6_strain_5 rfl (lv_at hl 0 rfl) ?_
  refine lv_iload_n hx hb dX6_strain_6 rfl (lv_at hl 2 rfl) ?_
  refine roVl (As := [.int (nI j)]) (rest := [.long (vA G i)]) (c_X6_b l dC dI cI cJ a bf ln (by omega) G n (by omega) lg lp k (by omega) rd np (by omega) M hG hL hR j (by omega)) ⟨hx, hb, hml, hown, hts⟩ (cwV 1 hts gX6_strain_X6_b rfl rfl rfl (by decide +kernel) ⟨Nat.le_of_ble_eq_true rfl, Nat.le_of_ble_eq_true rfl⟩) (hP.sub [0, 1, 2, 3, 4, 5, 6, 7, 8] rfl) hK hN (ci := 6) rfl rfl rfl hl.1 rfl (Nat.le_of_ble_eq_true rfl) dX6_strain_7 ⟨Nat.zero_le _, Nat.zero_le _⟩ (fun r hr0 => ?_)
  subst hr0
  refine lv_lmul hx hb dX6_strain_10 ?_
  refine lv_aload_n hx hb dX6_strain_11 rfl (lv_at hl 0 rfl) ?_
  refine lv_iload_n hx hb dX6_strain_12 rfl (lv_at hl 2 rfl) ?_
  refine roVl (As := [.int (nI j)]) (rest := [.long ((vA G i) * (vB G j))]) (c_X6_a l dC dI cI cJ a bf ln (by omega) G n (by omega) lg lp k (by omega) rd np (by omega) M hG hL hR j (by omega)) ⟨hx, hb, hml, hown, hts⟩ (cwV 1 hts gX6_strain_X6_a rfl rfl rfl (by decide +kernel) ⟨Nat.le_of_ble_eq_true rfl, Nat.le_of_ble_eq_true rfl⟩) (hP.sub [0, 1, 2, 3, 4, 5, 6, 7, 8] rfl) hK hN (ci := 6) rfl rfl rfl hl.1 rfl (Nat.le_of_ble_eq_true rfl) dX6_strain_13 ⟨Nat.zero_le _, Nat.zero_le _⟩ (fun r hr0 => ?_)
  subst hr0
  refine lv_aload_n hx hb dX6_strain_16 rfl (lv_at hl 0 rfl) ?_
  refine lv_iload_n hx hb dX6_strain_17 rfl (lv_at hl 1 rfl) ?_
  refine roVl (As := [.int (nI i)]) (rest := [.long (vA G j), .long ((vA G i) * (vB G j))]) (c_X6_b l dC dI cI cJ a bf ln (by omega) G n (by omega) lg lp k (by omega) rd np (by omega) M hG hL hR i (by omega)) ⟨hx, hb, hml, hown, hts⟩ (cwV 1 hts gX6_strain_X6_b rfl rfl rfl (by decide +kernel) ⟨Nat.le_of_ble_eq_true rfl, Nat.le_of_ble_eq_true rfl⟩) (hP.sub [0, 1, 2, 3, 4, 5, 6, 7, 8] rfl) hK hN (ci := 6) rfl rfl rfl hl.1 rfl (Nat.le_of_ble_eq_true rfl) dX6_strain_18 ⟨Nat.zero_le _, Nat.zero_le _⟩ (fun r hr0 => ?_)
  subst hr0
  refine lv_lmul hx hb dX6_strain_21 ?_
  refine lv_ladd hx hb dX6_strain_22 ?_
  exact W.lret hx hb hr (fun t ht hW => ⟨_, rfl, rfl, ht⟩) (fun _ h => absurd h List.not_mem_nil) dX6_strain_23

set_option maxHeartbeats 4000000 in
set_option maxRecDepth 100000 in
theorem c_X6_spectrum (l : Launch) (dC : Nat → ClassId) (dI : Nat → Nat → Nat) (cI cJ : ClassId) (a : Nat → Nat) (bf : Nat → Int32) (ln : Nat) (hln : ln ≤ 28) (G : GL) (n : Nat) (hn : n ≤ 20) (lg lp : Nat → Int32) (k : Nat) (hk : k ≤ 8) (rd : Nat → Int32) (np : Nat) (hp : np ≤ 16) (M : MS) (hG : gOK G n) (hL : lOK lg k n) (hR : rOK rd np) (i j : Nat) (hi : i < n) (hj : j < n) : Met l yX6_spectrum wsX6_spectrum ({ frames := 1, cells := 0, slots := 0, locals := 21 }) (va_Pc [.ref (a 0), .int (nI i), .int (nI j)] (RO (dC, dI) (tyK cI cJ) ([(a 0, .inr (6, [.int (nI ln), .ref (a 1), .int (nI n), .ref (a 2), .ref (a 3), .int (nI k), .ref (a 4), .ref (a 5), .int (nI np), .ref (a 6), .long M.1, .ref (a 7), .int M.2.1, .int M.2.2.1, .int M.2.2.2.1, .int M.2.2.2.2.1, .ref (a 8), .long M.2.2.2.2.2.1])), (a 1, .inl (cI, 28, .inl bf)), (a 2, .inl (cJ, 20, .inr (.inl (gK G)))), (a 3, .inl (cI, 60, .inl (ilv G))), (a 4, .inl (cI, 8, .inl lg)), (a 5, .inl (cI, 8, .inl lp)), (a 6, .inl (cI, 16, .inl rd)), (a 7, .inl (cI, 3, .inl M.2.2.2.2.2.2.1)), (a 8, .inl (cJ, 3, .inr (.inl M.2.2.2.2.2.2.2)))]))) (vp_Sl (fun r => r = vX G j i)) 0 0 (fun _ => False) := by
  refine Met.ofW (cc := cX6_spectrum) (maxL := 3) (ret := (some .long)) (by decide) rfl ?_
  intro p e s m args below meth c s₁ B hml hv
  obtain ⟨rfl, hP, hK, hN⟩ := hv
  have hx := B.exec
  have hb := B.bytes
  have hr := B.returns
  have hts := atoms_spec (ws := wsX6_spectrum) B.pre
  have hown : s.vm.findClass RX6 = some m.cls := findClass_of_methodNamed B.named
  have hlocks := B.notSynchronized
  have hP : va_P (dC, dI) vwCl [(a 0, .inr (6, [.int (nI ln), .ref (a 1), .int (nI n), .ref (a 2), .ref (a 3), .int (nI k), .ref (a 4), .ref (a 5), .int (nI np), .ref (a 6), .long M.1, .ref (a 7), .int M.2.1, .int M.2.2.1, .int M.2.2.2.1, .int M.2.2.2.2.1, .ref (a 8), .long M.2.2.2.2.2.1])), (a 1, .inl (cI, 28, .inl bf)), (a 2, .inl (cJ, 20, .inr (.inl (gK G)))), (a 3, .inl (cI, 60, .inl (ilv G))), (a 4, .inl (cI, 8, .inl lg)), (a 5, .inl (cI, 8, .inl lp)), (a 6, .inl (cI, 16, .inl rd)), (a 7, .inl (cI, 3, .inl M.2.2.2.2.2.2.1)), (a 8, .inl (cJ, 3, .inr (.inl M.2.2.2.2.2.2.2)))] s.heap := hP
  have hl := lv_entry ([.ref (a 0), .int (nI i), .int (nI j)]) (n := 3) (Nat.le_of_ble_eq_true rfl)
  rw [lg_entry_eq]
  generalize (lg_sl ([.ref (a 0), .int (nI i), .int (nI j)]) ++ List.replicate (3 - (lg_sl ([.ref (a 0), .int (nI i), .int (nI j)])).length) Slot.unset).toArray = ls at hl ⊢
  have hl : lv_has ls 3 [(0, .ref (a 0)), (1, .int (nI i)), (2, .int (nI j))] := hl
  refine lv_aload_n hx hb dX6_spectrum_0 rfl (lv_at hl 0 rfl) ?_
  refine lv_iload_n hx hb dX6_spectrum_1 rfl (lv_at hl 1 rfl) ?_
  refine roVl (As := [.int (nI i)]) (rest := []) (c_X6_d l dC dI cI cJ a bf ln (by omega) G n (by omega) lg lp k (by omega) rd np (by omega) M hG hL hR i (by omega)) ⟨hx, hb, hml, hown, hts⟩ (cwV 1 hts gX6_spectrum_X6_d rfl rfl rfl (by decide +kernel) ⟨Nat.le_of_ble_eq_true rfl, Nat.le_of_ble_eq_true rfl⟩) (hP.sub [0, 1, 2, 3, 4, 5, 6, 7, 8] rfl) hK hN (ci := 6) rfl rfl rfl hl.1 rfl (Nat.le_of_ble_eq_true rfl) dX6_spectrum_2 ⟨Nat.zero_le _, Nat.zero_le _⟩ (fun r hr0 => ?_)
  subst hr0
  refine lv_aload_n hx hb dX6_spectrum_5 rfl (lv_at hl 0 rfl) ?_
  refine lv_iload_n hx hb dX6_spectrum_6 rfl (lv_at hl 2 rfl) ?_
  refine roVl (As := [.int (nI j)]) (rest := [.long (vD G i)]) (c_X6_b l dC dI cI cJ a bf ln (by omega) G n (by omega) lg lp k (by omega) rd np (by omega) M hG hL hR j (by omega)) ⟨hx, hb, hml, hown, hts⟩ (cwV 1 hts gX6_spectrum_X6_b rfl rfl rfl (by decide +kernel) ⟨Nat.le_of_ble_eq_true rfl, Nat.le_of_ble_eq_true rfl⟩) (hP.sub [0, 1, 2, 3, 4, 5, 6, 7, 8] rfl) hK hN (ci := 6) rfl rfl rfl hl.1 rfl (Nat.le_of_ble_eq_true rfl) dX6_spectrum_7 ⟨Nat.zero_le _, Nat.zero_le _⟩ (fun r hr0 => ?_)
  subst hr0
  refine lv_lmul hx hb dX6_spectrum_10 ?_
  refine lv_aload_n hx hb dX6_spectrum_11 rfl (lv_at hl 0 rfl) ?_
  refine lv_iload_n hx hb dX6_spectrum_12 rfl (lv_at hl 2 rfl) ?_
  refine roVl (As := [.int (nI j)]) (rest := [.long ((vD G i) * (vB G j))]) (c_X6_d l dC dI cI cJ a bf ln (by omega) G n (by omega) lg lp k (by omega) rd np (by omega) M hG hL hR j (by omega)) ⟨hx, hb, hml, hown, hts⟩ (cwV 1 hts gX6_spectrum_X6_d rfl rfl rfl (by decide +kernel) ⟨Nat.le_of_ble_eq_true rfl, Nat.le_of_ble_eq_true rfl⟩) (hP.sub [0, 1, 2, 3, 4, 5, 6, 7, 8] rfl) hK hN (ci := 6) rfl rfl rfl hl.1 rfl (Nat.le_of_ble_eq_true rfl) dX6_spectrum_13 ⟨Nat.zero_le _, Nat.zero_le _⟩ (fun r hr0 => ?_)
  subst hr0
  refine lv_aload_n hx hb dX6_spectrum_16 rfl (lv_at hl 0 rfl) ?_
  refine lv_iload_n hx hb dX6_spectrum_17 rfl (lv_at hl 1 rfl) ?_
  refine roVl (As := [.int (nI i)]) (rest := [.long (vD G j), .long ((vD G i) * (vB G j))]) (c_X6_b l dC dI cI cJ a bf ln (by omega) G n (by omega) lg lp k (by omega) rd np (by omega) M hG hL hR i (by omega)) ⟨hx, hb, hml, hown, hts⟩ (cwV 1 hts gX6_spectrum_X6_b rfl rfl rfl (by decide +kernel) ⟨Nat.le_of_ble_eq_true rfl, Nat.le_of_ble_eq_true rfl⟩) (hP.sub [0, 1, 2, 3, 4, 5, 6, 7, 8] rfl) hK hN (ci := 6) rfl rfl rfl hl.1 rfl (Nat.le_of_ble_eq_true rfl) dX6_spectrum_18 ⟨Nat.zero_le _, Nat.zero_le _⟩ (fun r hr0 => ?_)
  subst hr0
  refine lv_lmul hx hb dX6_spectrum_21 ?_
  refine lv_lsub hx hb dX6_spectrum_22 ?_
  exact W.lret hx hb hr (fun t ht hW => ⟨_, rfl, spec_eq G i j, ht⟩) (fun _ h => absurd h List.not_mem_nil) dX6_spectrum_23

set_option maxHeartbeats 4000000 in
set_option maxRecDepth 100000 in
theorem c_X6_t (l : Launch) (dC : Nat → ClassId) (dI : Nat → Nat → Nat) (cI cJ : ClassId) (a : Nat → Nat) (bf : Nat → Int32) (ln : Nat) (hln : ln ≤ 28) (G : GL) (n : Nat) (hn : n ≤ 20) (lg lp : Nat → Int32) (k : Nat) (hk : k ≤ 8) (rd : Nat → Int32) (np : Nat) (hp : np ≤ 16) (M : MS) (hG : gOK G n) (hL : lOK lg k n) (hR : rOK rd np) (i j z : Nat) (hi : i < n) (hj : j < n) (hz : z < n) : Met l yX6_t wsX6_t ({ frames := 2, cells := 0, slots := 0, locals := 43 }) (va_Pc [.ref (a 0), .int (nI i), .int (nI j), .int (nI z)] (RO (dC, dI) (tyK cI cJ) ([(a 0, .inr (6, [.int (nI ln), .ref (a 1), .int (nI n), .ref (a 2), .ref (a 3), .int (nI k), .ref (a 4), .ref (a 5), .int (nI np), .ref (a 6), .long M.1, .ref (a 7), .int M.2.1, .int M.2.2.1, .int M.2.2.2.1, .int M.2.2.2.2.1, .ref (a 8), .long M.2.2.2.2.2.1])), (a 1, .inl (cI, 28, .inl bf)), (a 2, .inl (cJ, 20, .inr (.inl (gK G)))), (a 3, .inl (cI, 60, .inl (ilv G))), (a 4, .inl (cI, 8, .inl lg)), (a 5, .inl (cI, 8, .inl lp)), (a 6, .inl (cI, 16, .inl rd)), (a 7, .inl (cI, 3, .inl M.2.2.2.2.2.2.1)), (a 8, .inl (cJ, 3, .inr (.inl M.2.2.2.2.2.2.2)))]))) (vp_Sl (fun r => r = vTT G i j z)) 0 0 (fun _ => False) := by
  refine Met.ofW (cc := cX6_t) (maxL := 4) (ret := (some .long)) (by decide) rfl ?_
  intro p e s m args below meth c s₁ B hml hv
  obtain ⟨rfl, hP, hK, hN⟩ := hv
  have hx := B.exec
  have hb := B.bytes
  have hr := B.returns
  have hts := atoms_spec (ws := wsX6_t) B.pre
  have hown : s.vm.findClass RX6 = some m.cls := findClass_of_methodNamed B.named
  have hlocks := B.notSynchronized
  have hP : va_P (dC, dI) vwCl [(a 0, .inr (6, [.int (nI ln), .ref (a 1), .int (nI n), .ref (a 2), .ref (a 3), .int (nI k), .ref (a 4), .ref (a 5), .int (nI np), .ref (a 6), .long M.1, .ref (a 7), .int M.2.1, .int M.2.2.1, .int M.2.2.2.1, .int M.2.2.2.2.1, .ref (a 8), .long M.2.2.2.2.2.1])), (a 1, .inl (cI, 28, .inl bf)), (a 2, .inl (cJ, 20, .inr (.inl (gK G)))), (a 3, .inl (cI, 60, .inl (ilv G))), (a 4, .inl (cI, 8, .inl lg)), (a 5, .inl (cI, 8, .inl lp)), (a 6, .inl (cI, 16, .inl rd)), (a 7, .inl (cI, 3, .inl M.2.2.2.2.2.2.1)), (a 8, .inl (cJ, 3, .inr (.inl M.2.2.2.2.2.2.2)))] s.heap := hP
  have hl := lv_entry ([.ref (a 0), .int (nI i), .int (nI j), .int (nI z)]) (n := 4) (Nat.le_of_ble_eq_true rfl)
  rw [lg_entry_eq]
  generalize (lg_sl ([.ref (a 0), .int (nI i), .int (nI j), .int (nI z)]) ++ List.replicate (4 - (lg_sl ([.ref (a 0), .int (nI i), .int (nI j), .int (nI z)])).length) Slot.unset).toArray = ls at hl ⊢
  have hl : lv_has ls 4 [(0, .ref (a 0)), (1, .int (nI i)), (2, .int (nI j)), (3, .int (nI z))] := hl
  refine lv_aload_n hx hb dX6_t_0 rfl (lv_at hl 0 rfl) ?_
  refine lv_iload_n hx hb dX6_t_1 rfl (lv_at hl 1 rfl) ?_
  refine roVl (As := [.int (nI i)]) (rest := []) (c_X6_a l dC dI cI cJ a bf ln (by omega) G n (by omega) lg lp k (by omega) rd np (by omega) M hG hL hR i (by omega)) ⟨hx, hb, hml, hown, hts⟩ (cwV 1 hts gX6_t_X6_a rfl rfl rfl (by decide +kernel) ⟨Nat.le_of_ble_eq_true rfl, Nat.le_of_ble_eq_true rfl⟩) (hP.sub [0, 1, 2, 3, 4, 5, 6, 7, 8] rfl) hK hN (ci := 6) rfl rfl rfl hl.1 rfl (Nat.le_of_ble_eq_true rfl) dX6_t_2 ⟨Nat.zero_le _, Nat.zero_le _⟩ (fun r hr0 => ?_)
  subst hr0
  refine lv_aload_n hx hb dX6_t_5 rfl (lv_at hl 0 rfl) ?_
  refine lv_iload_n hx hb dX6_t_6 rfl (lv_at hl 2 rfl) ?_
  refine lv_iload_n hx hb dX6_t_7 rfl (lv_at hl 3 rfl) ?_
  refine roVl (As := [.int (nI j), .int (nI z)]) (rest := [.long (vA G i)]) (c_X6_x l dC dI cI cJ a bf ln (by omega) G n (by omega) lg lp k (by omega) rd np (by omega) M hG hL hR j z (by omega) (by omega)) ⟨hx, hb, hml, hown, hts⟩ (cwV 2 hts gX6_t_X6_x rfl rfl rfl (by decide +kernel) ⟨Nat.le_of_ble_eq_true rfl, Nat.le_of_ble_eq_true rfl⟩) (hP.sub [0, 1, 2, 3, 4, 5, 6, 7, 8] rfl) hK hN (ci := 6) rfl rfl rfl hl.1 rfl (Nat.le_of_ble_eq_true rfl) dX6_t_8 ⟨Nat.zero_le _, Nat.zero_le _⟩ (fun r hr0 => ?_)
  subst hr0
  refine lv_lmul hx hb dX6_t_11 ?_
  refine lv_aload_n hx hb dX6_t_12 rfl (lv_at hl 0 rfl) ?_
  refine lv_iload_n hx hb dX6_t_13 rfl (lv_at hl 2 rfl) ?_
  refine roVl (As := [.int (nI j)]) (rest := [.long ((vA G i) * (vX G j z))]) (c_X6_a l dC dI cI cJ a bf ln (by omega) G n (by omega) lg lp k (by omega) rd np (by omega) M hG hL hR j (by omega)) ⟨hx, hb, hml, hown, hts⟩ (cwV 1 hts gX6_t_X6_a rfl rfl rfl (by decide +kernel) ⟨Nat.le_of_ble_eq_true rfl, Nat.le_of_ble_eq_true rfl⟩) (hP.sub [0, 1, 2, 3, 4, 5, 6, 7, 8] rfl) hK hN (ci := 6) rfl rfl rfl hl.1 rfl (Nat.le_of_ble_eq_true rfl) dX6_t_14 ⟨Nat.zero_le _, Nat.zero_le _⟩ (fun r hr0 => ?_)
  subst hr0
  refine lv_aload_n hx hb dX6_t_17 rfl (lv_at hl 0 rfl) ?_
  refine lv_iload_n hx hb dX6_t_18 rfl (lv_at hl 3 rfl) ?_
  refine lv_iload_n hx hb dX6_t_19 rfl (lv_at hl 1 rfl) ?_
  refine roVl (As := [.int (nI z), .int (nI i)]) (rest := [.long (vA G j), .long ((vA G i) * (vX G j z))]) (c_X6_x l dC dI cI cJ a bf ln (by omega) G n (by omega) lg lp k (by omega) rd np (by omega) M hG hL hR z i (by omega) (by omega)) ⟨hx, hb, hml, hown, hts⟩ (cwV 2 hts gX6_t_X6_x rfl rfl rfl (by decide +kernel) ⟨Nat.le_of_ble_eq_true rfl, Nat.le_of_ble_eq_true rfl⟩) (hP.sub [0, 1, 2, 3, 4, 5, 6, 7, 8] rfl) hK hN (ci := 6) rfl rfl rfl hl.1 rfl (Nat.le_of_ble_eq_true rfl) dX6_t_20 ⟨Nat.zero_le _, Nat.zero_le _⟩ (fun r hr0 => ?_)
  subst hr0
  refine lv_lmul hx hb dX6_t_23 ?_
  refine lv_ladd hx hb dX6_t_24 ?_
  refine lv_aload_n hx hb dX6_t_25 rfl (lv_at hl 0 rfl) ?_
  refine lv_iload_n hx hb dX6_t_26 rfl (lv_at hl 3 rfl) ?_
  refine roVl (As := [.int (nI z)]) (rest := [.long (((vA G i) * (vX G j z)) + ((vA G j) * (vX G z i)))]) (c_X6_a l dC dI cI cJ a bf ln (by omega) G n (by omega) lg lp k (by omega) rd np (by omega) M hG hL hR z (by omega)) ⟨hx, hb, hml, hown, hts⟩ (cwV 1 hts gX6_t_X6_a rfl rfl rfl (by decide +kernel) ⟨Nat.le_of_ble_eq_true rfl, Nat.le_of_ble_eq_true rfl⟩) (hP.sub [0, 1, 2, 3, 4, 5, 6, 7, 8] rfl) hK hN (ci := 6) rfl rfl rfl hl.1 rfl (Nat.le_of_ble_eq_true rfl) dX6_t_27 ⟨Nat.zero_le _, Nat.zero_le _⟩ (fun r hr0 => ?_)
  subst hr0
  refine lv_aload_n hx hb dX6_t_30 rfl (lv_at hl 0 rfl) ?_
  refine lv_iload_n hx hb dX6_t_31 rfl (lv_at hl 1 rfl) ?_
  refine lv_iload_n hx hb dX6_t_32 rfl (lv_at hl 2 rfl) ?_
  refine roVl (As := [.int (nI i), .int (nI j)]) (rest := [.long (vA G z), .long (((vA G i) * (vX G j z)) + ((vA G j) * (vX G z i)))]) (c_X6_x l dC dI cI cJ a bf ln (by omega) G n (by omega) lg lp k (by omega) rd np (by omega) M hG hL hR i j (by omega) (by omega)) ⟨hx, hb, hml, hown, hts⟩ (cwV 2 hts gX6_t_X6_x rfl rfl rfl (by decide +kernel) ⟨Nat.le_of_ble_eq_true rfl, Nat.le_of_ble_eq_true rfl⟩) (hP.sub [0, 1, 2, 3, 4, 5, 6, 7, 8] rfl) hK hN (ci := 6) rfl rfl rfl hl.1 rfl (Nat.le_of_ble_eq_true rfl) dX6_t_33 ⟨Nat.zero_le _, Nat.zero_le _⟩ (fun r hr0 => ?_)
  subst hr0
  refine lv_lmul hx hb dX6_t_36 ?_
  refine lv_ladd hx hb dX6_t_37 ?_
  exact W.lret hx hb hr (fun t ht hW => ⟨_, rfl, rfl, ht⟩) (fun _ h => absurd h List.not_mem_nil) dX6_t_38

set_option maxHeartbeats 4000000 in
set_option maxRecDepth 100000 in
theorem c_X6_doubletPower (l : Launch) (dC : Nat → ClassId) (dI : Nat → Nat → Nat) (cI cJ : ClassId) (a : Nat → Nat) (bf : Nat → Int32) (ln : Nat) (hln : ln ≤ 28) (G : GL) (n : Nat) (hn : n ≤ 20) (lg lp : Nat → Int32) (k : Nat) (hk : k ≤ 8) (rd : Nat → Int32) (np : Nat) (hp : np ≤ 16) (M : MS) (hG : gOK G n) (hL : lOK lg k n) (hR : rOK rd np) (i j w v : Int32) : Met l yX6_doubletPower wsX6_doubletPower ({ frames := 2, cells := 0, slots := 0, locals := 46 }) (va_Pc [.ref (a 0), .int i, .int j, .int w, .int v] (RO (dC, dI) (tyK cI cJ) ([(a 0, .inr (6, [.int (nI ln), .ref (a 1), .int (nI n), .ref (a 2), .ref (a 3), .int (nI k), .ref (a 4), .ref (a 5), .int (nI np), .ref (a 6), .long M.1, .ref (a 7), .int M.2.1, .int M.2.2.1, .int M.2.2.2.1, .int M.2.2.2.2.1, .ref (a 8), .long M.2.2.2.2.2.1])), (a 1, .inl (cI, 28, .inl bf)), (a 2, .inl (cJ, 20, .inr (.inl (gK G)))), (a 3, .inl (cI, 60, .inl (ilv G))), (a 4, .inl (cI, 8, .inl lg)), (a 5, .inl (cI, 8, .inl lp)), (a 6, .inl (cI, 16, .inl rd)), (a 7, .inl (cI, 3, .inl M.2.2.2.2.2.2.1)), (a 8, .inl (cJ, 3, .inr (.inl M.2.2.2.2.2.2.2)))]))) (vp_Sl (fun r => r = sDbl G n i j w v)) 0 0 (fun _ => False) := by
  refine Met.ofW (cc := cX6_doubletPower) (maxL := 9) (ret := (some .long)) (by decide) rfl ?_
  intro p e s m args below meth c s₁ B hml hv
  obtain ⟨rfl, hP, hK, hN⟩ := hv
  have hx := B.exec
  have hb := B.bytes
  have hr := B.returns
  have hts := atoms_spec (ws := wsX6_doubletPower) B.pre
  have hown : s.vm.findClass RX6 = some m.cls := findClass_of_methodNamed B.named
  have hlocks := B.notSynchronized
  have hP : va_P (dC, dI) vwCl [(a 0, .inr (6, [.int (nI ln), .ref (a 1), .int (nI n), .ref (a 2), .ref (a 3), .int (nI k), .ref (a 4), .ref (a 5), .int (nI np), .ref (a 6), .long M.1, .ref (a 7), .int M.2.1, .int M.2.2.1, .int M.2.2.2.1, .int M.2.2.2.2.1, .ref (a 8), .long M.2.2.2.2.2.1])), (a 1, .inl (cI, 28, .inl bf)), (a 2, .inl (cJ, 20, .inr (.inl (gK G)))), (a 3, .inl (cI, 60, .inl (ilv G))), (a 4, .inl (cI, 8, .inl lg)), (a 5, .inl (cI, 8, .inl lp)), (a 6, .inl (cI, 16, .inl rd)), (a 7, .inl (cI, 3, .inl M.2.2.2.2.2.2.1)), (a 8, .inl (cJ, 3, .inr (.inl M.2.2.2.2.2.2.2)))] s.heap := hP
  have hl := lv_entry ([.ref (a 0), .int i, .int j, .int w, .int v]) (n := 9) (Nat.le_of_ble_eq_true rfl)
  rw [lg_entry_eq]
  generalize (lg_sl ([.ref (a 0), .int i, .int j, .int w, .int v]) ++ List.replicate (9 - (lg_sl ([.ref (a 0), .int i, .int j, .int w, .int v])).length) Slot.unset).toArray = ls at hl ⊢
  have hl : lv_has ls 9 [(0, .ref (a 0)), (1, .int i), (2, .int j), (3, .int w), (4, .int v)] := hl
  refine lv_aload_n hx hb dX6_doubletPower_0 rfl (lv_at hl 0 rfl) ?_
  refine lv_iload_n hx hb dX6_doubletPower_1 rfl (lv_at hl 1 rfl) ?_
  refine roVi (As := [.int i]) (rest := []) (c_X6_isGlass l dC dI cI cJ a bf ln (by omega) G n (by omega) lg lp k (by omega) rd np (by omega) M hG hL hR i) ⟨hx, hb, hml, hown, hts⟩ (cwV 1 hts gX6_doubletPower_X6_isGlass rfl rfl rfl (by decide +kernel) ⟨Nat.le_of_ble_eq_true rfl, Nat.le_of_ble_eq_true rfl⟩) (hP.sub [0, 1, 2, 3, 4, 5, 6, 7, 8] rfl) hK hN (ci := 6) rfl rfl rfl hl.1 rfl (Nat.le_of_ble_eq_true rfl) dX6_doubletPower_2 ⟨Nat.zero_le _, Nat.zero_le _⟩ (fun r hr0 => ?_)
  subst hr0
  refine rb_eq (tgt := 16) hx hb dX6_doubletPower_5 (by decide) (fun h5 => ?_) (fun h5 => ?_)
  · refine lv_ldc2 (v := (-9000000000000000002)) hx hb hown (hts (.constantLong RX6 104 (-9000000000000000002)) (by decide +kernel)) dX6_doubletPower_16 ?_
    exact W.lret hx hb hr (fun t ht hW => ⟨_, rfl, by rw [sDbl, if_neg (fun w => h5 w.1)], ht⟩) (fun _ h => absurd h List.not_mem_nil) dX6_doubletPower_19
  · obtain ⟨g, hg, eg⟩ := hasP_ex (by omega) h5
    subst eg
    refine lv_aload_n hx hb dX6_doubletPower_8 rfl (lv_at hl 0 rfl) ?_
    refine lv_iload_n hx hb dX6_doubletPower_9 rfl (lv_at hl 2 rfl) ?_
    refine roVi (As := [.int j]) (rest := []) (c_X6_isGlass l dC dI cI cJ a bf ln (by omega) G n (by omega) lg lp k (by omega) rd np (by omega) M hG hL hR j) ⟨hx, hb, hml, hown, hts⟩ (cwV 1 hts gX6_doubletPower_X6_isGlass rfl rfl rfl (by decide +kernel) ⟨Nat.le_of_ble_eq_true rfl, Nat.le_of_ble_eq_true rfl⟩) (hP.sub [0, 1, 2, 3, 4, 5, 6, 7, 8] rfl) hK hN (ci := 6) rfl rfl rfl hl.1 rfl (Nat.le_of_ble_eq_true rfl) dX6_doubletPower_10 ⟨Nat.zero_le _, Nat.zero_le _⟩ (fun r hr0 => ?_)
    subst hr0
    refine rb_ne (tgt := 20) hx hb dX6_doubletPower_13 (by decide) (fun h13 => ?_) (fun h13 => ?_)
    · obtain ⟨g2, hg2, eg2⟩ := hasP_ex (by omega) h13
      subst eg2
      refine lv_iload_n hx hb dX6_doubletPower_20 rfl (lv_at hl 3 rfl) ?_
      refine lv_i2l (v := w.toInt64) hx hb dX6_doubletPower_21 rfl ?_
      refine lv_ldc2 (v := (-10000)) hx hb hown (hts (.constantLong RX6 136 (-10000)) (by decide +kernel)) dX6_doubletPower_22 ?_
      refine lv_ldc2 (v := 10000) hx hb hown (hts (.constantLong RX6 138 (10000)) (by decide +kernel)) dX6_doubletPower_25 ?_
      refine stSi (As := [.long w.toInt64, .long (-10000), .long 10000]) (rest := []) (c_X6_within l w.toInt64 (-10000) 10000) ⟨hx, hb, hml, hown, hts⟩ (va_cwS 3 hts gX6_doubletPower_X6_within rfl rfl rfl (by decide +kernel) ⟨Nat.le_of_ble_eq_true rfl, Nat.le_of_ble_eq_true rfl⟩) rfl hl.1 rfl (Nat.le_of_ble_eq_true rfl) dX6_doubletPower_28 ⟨Nat.zero_le _, Nat.zero_le _⟩ (fun r hr0 => ?_)
      subst hr0
      refine rb_eq (tgt := 45) hx hb dX6_doubletPower_31 (by decide) (fun h31 => ?_) (fun h31 => ?_)
      · have h31 := fun qq => h31 (Iff.mpr (w_iff w (-10000) 10000 (by decide) (by decide)) qq)
        refine lv_ldc2 (v := (-9000000000000000001)) hx hb hown (hts (.constantLong RX6 53 (-9000000000000000001)) (by decide +kernel)) dX6_doubletPower_45 ?_
        exact W.lret hx hb hr (fun t ht hW => ⟨_, rfl, by rw [sDbl, if_pos ⟨h5, h13⟩, if_neg (fun w => h31 w.1)], ht⟩) (fun _ h => absurd h List.not_mem_nil) dX6_doubletPower_48
      · have h31 := (w_iff w (-10000) 10000 (by decide) (by decide)).mp h31
        refine lv_iload hx hb dX6_doubletPower_34 (lv_at hl 4 rfl) ?_
        refine lv_i2l (v := v.toInt64) hx hb dX6_doubletPower_36 rfl ?_
        refine lv_lconst (v := 0) hx hb dX6_doubletPower_37 (by decide) ?_
        refine lv_lconst (v := 1) hx hb dX6_doubletPower_38 (by decide) ?_
        refine stSi (As := [.long v.toInt64, .long 0, .long 1]) (rest := []) (c_X6_within l v.toInt64 0 1) ⟨hx, hb, hml, hown, hts⟩ (va_cwS 3 hts gX6_doubletPower_X6_within rfl rfl rfl (by decide +kernel) ⟨Nat.le_of_ble_eq_true rfl, Nat.le_of_ble_eq_true rfl⟩) rfl hl.1 rfl (Nat.le_of_ble_eq_true rfl) dX6_doubletPower_39 ⟨Nat.zero_le _, Nat.zero_le _⟩ (fun r hr0 => ?_)
        subst hr0
        refine rb_ne (tgt := 49) hx hb dX6_doubletPower_42 (by decide) (fun h42 => ?_) (fun h42 => ?_)
        · have h42 := (w_iff v 0 1 (by decide) (by decide)).mp h42
          refine rjoin (nL := 9) 80 [(0, .ref (a 0)), (1, .int (nI g)), (2, .int (nI g2)), (3, .int w), (4, .int v)] [.long (if v = 0 then vA G g * vB G g2 else -(vA G g2) * vB G g)] (fun ls hl => ?_) (fun hj80 => ?_)
          · refine lv_lstore (lv' := [(5, .long (if v = 0 then vA G g * vB G g2 else -(vA G g2) * vB G g)), (0, .ref (a 0)), (1, .int (nI g)), (2, .int (nI g2)), (3, .int w), (4, .int v)]) hx hb dX6_doubletPower_80 hl (by decide) rfl (fun ls hl => ?_)
            refine lv_aload_n hx hb dX6_doubletPower_82 rfl (lv_at hl 1 rfl) ?_
            refine lv_iload_n hx hb dX6_doubletPower_83 rfl (lv_at hl 2 rfl) ?_
            refine lv_iload_n hx hb dX6_doubletPower_84 rfl (lv_at hl 3 rfl) ?_
            refine roVl (As := [.int (nI g), .int (nI g2)]) (rest := []) (c_X6_e l dC dI cI cJ a bf ln (by omega) G n (by omega) lg lp k (by omega) rd np (by omega) M hG hL hR g g2 (by omega) (by omega)) ⟨hx, hb, hml, hown, hts⟩ (cwV 2 hts gX6_doubletPower_X6_e rfl rfl rfl (by decide +kernel) ⟨Nat.le_of_ble_eq_true rfl, Nat.le_of_ble_eq_true rfl⟩) (hP.sub [0, 1, 2, 3, 4, 5, 6, 7, 8] rfl) hK hN (ci := 6) rfl rfl rfl hl.1 rfl (Nat.le_of_ble_eq_true rfl) dX6_doubletPower_85 ⟨Nat.zero_le _, Nat.zero_le _⟩ (fun r hr0 => ?_)
            subst hr0
            refine lv_lstore (lv' := [(7, .long (vE G g g2)), (5, .long (if v = 0 then vA G g * vB G g2 else -(vA G g2) * vB G g)), (0, .ref (a 0)), (1, .int (nI g)), (2, .int (nI g2)), (3, .int w), (4, .int v)]) hx hb dX6_doubletPower_88 hl (by decide) rfl (fun ls hl => ?_)
            refine lv_lload hx hb dX6_doubletPower_90 (lv_at hl 0 rfl) ?_
            refine lv_lconst (v := 0) hx hb dX6_doubletPower_92 (by decide) ?_
            refine rl_ifne (tgt := 103) hx hb dX6_doubletPower_93 dX6_doubletPower_94 (by decide) (fun h93 => ?_) (fun h93 => ?_)
            · refine lv_ldc2 (v := 1000) hx hb hown (hts (.constantLong RX6 115 (1000)) (by decide +kernel)) dX6_doubletPower_103 ?_
              refine lv_iload_n hx hb dX6_doubletPower_106 rfl (lv_at hl 5 rfl) ?_
              refine lv_i2l (v := w.toInt64) hx hb dX6_doubletPower_107 rfl ?_
              refine lv_lmul hx hb dX6_doubletPower_108 ?_
              refine lv_lload hx hb dX6_doubletPower_109 (lv_at hl 1 rfl) ?_
              refine lv_lmul hx hb dX6_doubletPower_111 ?_
              refine lv_lload hx hb dX6_doubletPower_112 (lv_at hl 0 rfl) ?_
              refine stSl (As := [.long ((1000 * w.toInt64) * (if v = 0 then vA G g * vB G g2 else -(vA G g2) * vB G g)), .long (vE G g g2)]) (rest := []) (c_X6_floor l ((1000 * w.toInt64) * (if v = 0 then vA G g * vB G g2 else -(vA G g2) * vB G g)) (vE G g g2) (by assumption)) ⟨hx, hb, hml, hown, hts⟩ (va_cwS 2 hts gX6_doubletPower_X6_floor rfl rfl rfl (by decide +kernel) ⟨Nat.le_of_ble_eq_true rfl, Nat.le_of_ble_eq_true rfl⟩) rfl hl.1 rfl (Nat.le_of_ble_eq_true rfl) dX6_doubletPower_114 ⟨Nat.zero_le _, Nat.zero_le _⟩ (fun r hr0 => ?_)
              subst hr0
              exact W.lret hx hb hr (fun t ht hW => ⟨_, rfl, by rw [sDbl, if_pos ⟨h5, h13⟩, if_pos ⟨h31, h42⟩, ix_nI (by omega), ix_nI (by omega), if_neg h93], ht⟩) (fun _ h => absurd h List.not_mem_nil) dX6_doubletPower_117
            · refine lv_ldc2 (v := (-9000000000000000008)) hx hb hown (hts (.constantLong RX6 134 (-9000000000000000008)) (by decide +kernel)) dX6_doubletPower_97 ?_
              refine lv_goto (tgt := 117) hx hb dX6_doubletPower_100 (by decide) ?_
              exact W.lret hx hb hr (fun t ht hW => ⟨_, rfl, by rw [sDbl, if_pos ⟨h5, h13⟩, if_pos ⟨h31, h42⟩, ix_nI (by omega), ix_nI (by omega), if_pos h93], ht⟩) (fun _ h => absurd h List.not_mem_nil) dX6_doubletPower_117
          · refine lv_iload hx hb dX6_doubletPower_49 (lv_at hl 4 rfl) ?_
            refine lv_if_ne (tgt := 68) hx hb dX6_doubletPower_51 (by decide) (fun h51 => ?_) (fun h51 => ?_)
            · refine lv_aload_n hx hb dX6_doubletPower_68 rfl (lv_at hl 0 rfl) ?_
              refine lv_iload_n hx hb dX6_doubletPower_69 rfl (lv_at hl 2 rfl) ?_
              refine roVl (As := [.int (nI g2)]) (rest := []) (c_X6_a l dC dI cI cJ a bf ln (by omega) G n (by omega) lg lp k (by omega) rd np (by omega) M hG hL hR g2 (by omega)) ⟨hx, hb, hml, hown, hts⟩ (cwV 1 hts gX6_doubletPower_X6_a rfl rfl rfl (by decide +kernel) ⟨Nat.le_of_ble_eq_true rfl, Nat.le_of_ble_eq_true rfl⟩) (hP.sub [0, 1, 2, 3, 4, 5, 6, 7, 8] rfl) hK hN (ci := 6) rfl rfl rfl hl.1 rfl (Nat.le_of_ble_eq_true rfl) dX6_doubletPower_70 ⟨Nat.zero_le _, Nat.zero_le _⟩ (fun r hr0 => ?_)
              subst hr0
              refine lv_lneg hx hb dX6_doubletPower_73 ?_
              refine lv_aload_n hx hb dX6_doubletPower_74 rfl (lv_at hl 0 rfl) ?_
              refine lv_iload_n hx hb dX6_doubletPower_75 rfl (lv_at hl 1 rfl) ?_
              refine roVl (As := [.int (nI g)]) (rest := [.long (-(vA G g2))]) (c_X6_b l dC dI cI cJ a bf ln (by omega) G n (by omega) lg lp k (by omega) rd np (by omega) M hG hL hR g (by omega)) ⟨hx, hb, hml, hown, hts⟩ (cwV 1 hts gX6_doubletPower_X6_b rfl rfl rfl (by decide +kernel) ⟨Nat.le_of_ble_eq_true rfl, Nat.le_of_ble_eq_true rfl⟩) (hP.sub [0, 1, 2, 3, 4, 5, 6, 7, 8] rfl) hK hN (ci := 6) rfl rfl rfl hl.1 rfl (Nat.le_of_ble_eq_true rfl) dX6_doubletPower_76 ⟨Nat.zero_le _, Nat.zero_le _⟩ (fun r hr0 => ?_)
              subst hr0
              refine lv_lmul hx hb dX6_doubletPower_79 ?_
              refine rw_topl (show ((-(vA G g2)) * (vB G g) : Int64) = (if v = 0 then vA G g * vB G g2 else -(vA G g2) * vB G g : Int64) from by first | rw [if_pos h51] | rw [if_neg h51]) ?_
              exact hj80 ls (lv_sub hl [0, 1, 2, 3, 4] rfl)
            · refine lv_aload_n hx hb dX6_doubletPower_54 rfl (lv_at hl 0 rfl) ?_
              refine lv_iload_n hx hb dX6_doubletPower_55 rfl (lv_at hl 1 rfl) ?_
              refine roVl (As := [.int (nI g)]) (rest := []) (c_X6_a l dC dI cI cJ a bf ln (by omega) G n (by omega) lg lp k (by omega) rd np (by omega) M hG hL hR g (by omega)) ⟨hx, hb, hml, hown, hts⟩ (cwV 1 hts gX6_doubletPower_X6_a rfl rfl rfl (by decide +kernel) ⟨Nat.le_of_ble_eq_true rfl, Nat.le_of_ble_eq_true rfl⟩) (hP.sub [0, 1, 2, 3, 4, 5, 6, 7, 8] rfl) hK hN (ci := 6) rfl rfl rfl hl.1 rfl (Nat.le_of_ble_eq_true rfl) dX6_doubletPower_56 ⟨Nat.zero_le _, Nat.zero_le _⟩ (fun r hr0 => ?_)
              subst hr0
              refine lv_aload_n hx hb dX6_doubletPower_59 rfl (lv_at hl 0 rfl) ?_
              refine lv_iload_n hx hb dX6_doubletPower_60 rfl (lv_at hl 2 rfl) ?_
              refine roVl (As := [.int (nI g2)]) (rest := [.long (vA G g)]) (c_X6_b l dC dI cI cJ a bf ln (by omega) G n (by omega) lg lp k (by omega) rd np (by omega) M hG hL hR g2 (by omega)) ⟨hx, hb, hml, hown, hts⟩ (cwV 1 hts gX6_doubletPower_X6_b rfl rfl rfl (by decide +kernel) ⟨Nat.le_of_ble_eq_true rfl, Nat.le_of_ble_eq_true rfl⟩) (hP.sub [0, 1, 2, 3, 4, 5, 6, 7, 8] rfl) hK hN (ci := 6) rfl rfl rfl hl.1 rfl (Nat.le_of_ble_eq_true rfl) dX6_doubletPower_61 ⟨Nat.zero_le _, Nat.zero_le _⟩ (fun r hr0 => ?_)
              subst hr0
              refine lv_lmul hx hb dX6_doubletPower_64 ?_
              refine lv_goto (tgt := 80) hx hb dX6_doubletPower_65 (by decide) ?_
              refine rw_topl (show ((vA G g) * (vB G g2) : Int64) = (if v = 0 then vA G g * vB G g2 else -(vA G g2) * vB G g : Int64) from by first | rw [if_pos h51] | rw [if_neg h51]) ?_
              exact hj80 ls (lv_sub hl [0, 1, 2, 3, 4] rfl)
        · have h42 := fun qq => h42 (Iff.mpr (w_iff v 0 1 (by decide) (by decide)) qq)
          refine lv_ldc2 (v := (-9000000000000000001)) hx hb hown (hts (.constantLong RX6 53 (-9000000000000000001)) (by decide +kernel)) dX6_doubletPower_45 ?_
          exact W.lret hx hb hr (fun t ht hW => ⟨_, rfl, by rw [sDbl, if_pos ⟨h5, h13⟩, if_neg (fun w => h42 w.2)], ht⟩) (fun _ h => absurd h List.not_mem_nil) dX6_doubletPower_48
    · refine lv_ldc2 (v := (-9000000000000000002)) hx hb hown (hts (.constantLong RX6 104 (-9000000000000000002)) (by decide +kernel)) dX6_doubletPower_16 ?_
      exact W.lret hx hb hr (fun t ht hW => ⟨_, rfl, by rw [sDbl, if_neg (fun w => h13 w.2)], ht⟩) (fun _ h => absurd h List.not_mem_nil) dX6_doubletPower_19

set_option maxHeartbeats 4000000 in
set_option maxRecDepth 100000 in
theorem c_X6_secondarySpectrum (l : Launch) (dC : Nat → ClassId) (dI : Nat → Nat → Nat) (cI cJ : ClassId) (a : Nat → Nat) (bf : Nat → Int32) (ln : Nat) (hln : ln ≤ 28) (G : GL) (n : Nat) (hn : n ≤ 20) (lg lp : Nat → Int32) (k : Nat) (hk : k ≤ 8) (rd : Nat → Int32) (np : Nat) (hp : np ≤ 16) (M : MS) (hG : gOK G n) (hL : lOK lg k n) (hR : rOK rd np) (i j w : Int32) : Met l yX6_secondarySpectrum wsX6_secondarySpectrum ({ frames := 2, cells := 0, slots := 0, locals := 46 }) (va_Pc [.ref (a 0), .int i, .int j, .int w] (RO (dC, dI) (tyK cI cJ) ([(a 0, .inr (6, [.int (nI ln), .ref (a 1), .int (nI n), .ref (a 2), .ref (a 3), .int (nI k), .ref (a 4), .ref (a 5), .int (nI np), .ref (a 6), .long M.1, .ref (a 7), .int M.2.1, .int M.2.2.1, .int M.2.2.2.1, .int M.2.2.2.2.1, .ref (a 8), .long M.2.2.2.2.2.1])), (a 1, .inl (cI, 28, .inl bf)), (a 2, .inl (cJ, 20, .inr (.inl (gK G)))), (a 3, .inl (cI, 60, .inl (ilv G))), (a 4, .inl (cI, 8, .inl lg)), (a 5, .inl (cI, 8, .inl lp)), (a 6, .inl (cI, 16, .inl rd)), (a 7, .inl (cI, 3, .inl M.2.2.2.2.2.2.1)), (a 8, .inl (cJ, 3, .inr (.inl M.2.2.2.2.2.2.2)))]))) (vp_Sl (fun r => r = sSec G n i j w)) 0 0 (fun _ => False) := by
  refine Met.ofW (cc := cX6_secondarySpectrum) (maxL := 6) (ret := (some .long)) (by decide) rfl ?_
  intro p e s m args below meth c s₁ B hml hv
  obtain ⟨rfl, hP, hK, hN⟩ := hv
  have hx := B.exec
  have hb := B.bytes
  have hr := B.returns
  have hts := atoms_spec (ws := wsX6_secondarySpectrum) B.pre
  have hown : s.vm.findClass RX6 = some m.cls := findClass_of_methodNamed B.named
  have hlocks := B.notSynchronized
  have hP : va_P (dC, dI) vwCl [(a 0, .inr (6, [.int (nI ln), .ref (a 1), .int (nI n), .ref (a 2), .ref (a 3), .int (nI k), .ref (a 4), .ref (a 5), .int (nI np), .ref (a 6), .long M.1, .ref (a 7), .int M.2.1, .int M.2.2.1, .int M.2.2.2.1, .int M.2.2.2.2.1, .ref (a 8), .long M.2.2.2.2.2.1])), (a 1, .inl (cI, 28, .inl bf)), (a 2, .inl (cJ, 20, .inr (.inl (gK G)))), (a 3, .inl (cI, 60, .inl (ilv G))), (a 4, .inl (cI, 8, .inl lg)), (a 5, .inl (cI, 8, .inl lp)), (a 6, .inl (cI, 16, .inl rd)), (a 7, .inl (cI, 3, .inl M.2.2.2.2.2.2.1)), (a 8, .inl (cJ, 3, .inr (.inl M.2.2.2.2.2.2.2)))] s.heap := hP
  have hl := lv_entry ([.ref (a 0), .int i, .int j, .int w]) (n := 6) (Nat.le_of_ble_eq_true rfl)
  rw [lg_entry_eq]
  generalize (lg_sl ([.ref (a 0), .int i, .int j, .int w]) ++ List.replicate (6 - (lg_sl ([.ref (a 0), .int i, .int j, .int w])).length) Slot.unset).toArray = ls at hl ⊢
  have hl : lv_has ls 6 [(0, .ref (a 0)), (1, .int i), (2, .int j), (3, .int w)] := hl
  refine lv_aload_n hx hb dX6_secondarySpectrum_0 rfl (lv_at hl 0 rfl) ?_
  refine lv_iload_n hx hb dX6_secondarySpectrum_1 rfl (lv_at hl 1 rfl) ?_
  refine roVi (As := [.int i]) (rest := []) (c_X6_isGlass l dC dI cI cJ a bf ln (by omega) G n (by omega) lg lp k (by omega) rd np (by omega) M hG hL hR i) ⟨hx, hb, hml, hown, hts⟩ (cwV 1 hts gX6_secondarySpectrum_X6_isGlass rfl rfl rfl (by decide +kernel) ⟨Nat.le_of_ble_eq_true rfl, Nat.le_of_ble_eq_true rfl⟩) (hP.sub [0, 1, 2, 3, 4, 5, 6, 7, 8] rfl) hK hN (ci := 6) rfl rfl rfl hl.1 rfl (Nat.le_of_ble_eq_true rfl) dX6_secondarySpectrum_2 ⟨Nat.zero_le _, Nat.zero_le _⟩ (fun r hr0 => ?_)
  subst hr0
  refine rb_eq (tgt := 16) hx hb dX6_secondarySpectrum_5 (by decide) (fun h5 => ?_) (fun h5 => ?_)
  · refine lv_ldc2 (v := (-9000000000000000002)) hx hb hown (hts (.constantLong RX6 104 (-9000000000000000002)) (by decide +kernel)) dX6_secondarySpectrum_16 ?_
    exact W.lret hx hb hr (fun t ht hW => ⟨_, rfl, by rw [sSec, if_neg (fun w => h5 w.1)], ht⟩) (fun _ h => absurd h List.not_mem_nil) dX6_secondarySpectrum_19
  · obtain ⟨g, hg, eg⟩ := hasP_ex (by omega) h5
    subst eg
    refine lv_aload_n hx hb dX6_secondarySpectrum_8 rfl (lv_at hl 0 rfl) ?_
    refine lv_iload_n hx hb dX6_secondarySpectrum_9 rfl (lv_at hl 2 rfl) ?_
    refine roVi (As := [.int j]) (rest := []) (c_X6_isGlass l dC dI cI cJ a bf ln (by omega) G n (by omega) lg lp k (by omega) rd np (by omega) M hG hL hR j) ⟨hx, hb, hml, hown, hts⟩ (cwV 1 hts gX6_secondarySpectrum_X6_isGlass rfl rfl rfl (by decide +kernel) ⟨Nat.le_of_ble_eq_true rfl, Nat.le_of_ble_eq_true rfl⟩) (hP.sub [0, 1, 2, 3, 4, 5, 6, 7, 8] rfl) hK hN (ci := 6) rfl rfl rfl hl.1 rfl (Nat.le_of_ble_eq_true rfl) dX6_secondarySpectrum_10 ⟨Nat.zero_le _, Nat.zero_le _⟩ (fun r hr0 => ?_)
    subst hr0
    refine rb_ne (tgt := 20) hx hb dX6_secondarySpectrum_13 (by decide) (fun h13 => ?_) (fun h13 => ?_)
    · obtain ⟨g2, hg2, eg2⟩ := hasP_ex (by omega) h13
      subst eg2
      refine lv_iload_n hx hb dX6_secondarySpectrum_20 rfl (lv_at hl 3 rfl) ?_
      refine lv_i2l (v := w.toInt64) hx hb dX6_secondarySpectrum_21 rfl ?_
      refine lv_ldc2 (v := (-10000)) hx hb hown (hts (.constantLong RX6 136 (-10000)) (by decide +kernel)) dX6_secondarySpectrum_22 ?_
      refine lv_ldc2 (v := 10000) hx hb hown (hts (.constantLong RX6 138 (10000)) (by decide +kernel)) dX6_secondarySpectrum_25 ?_
      refine stSi (As := [.long w.toInt64, .long (-10000), .long 10000]) (rest := []) (c_X6_within l w.toInt64 (-10000) 10000) ⟨hx, hb, hml, hown, hts⟩ (va_cwS 3 hts gX6_secondarySpectrum_X6_within rfl rfl rfl (by decide +kernel) ⟨Nat.le_of_ble_eq_true rfl, Nat.le_of_ble_eq_true rfl⟩) rfl hl.1 rfl (Nat.le_of_ble_eq_true rfl) dX6_secondarySpectrum_28 ⟨Nat.zero_le _, Nat.zero_le _⟩ (fun r hr0 => ?_)
      subst hr0
      refine rb_ne (tgt := 38) hx hb dX6_secondarySpectrum_31 (by decide) (fun h31 => ?_) (fun h31 => ?_)
      · have h31 := (w_iff w (-10000) 10000 (by decide) (by decide)).mp h31
        refine lv_aload_n hx hb dX6_secondarySpectrum_38 rfl (lv_at hl 0 rfl) ?_
        refine lv_iload_n hx hb dX6_secondarySpectrum_39 rfl (lv_at hl 1 rfl) ?_
        refine lv_iload_n hx hb dX6_secondarySpectrum_40 rfl (lv_at hl 2 rfl) ?_
        refine roVl (As := [.int (nI g), .int (nI g2)]) (rest := []) (c_X6_e l dC dI cI cJ a bf ln (by omega) G n (by omega) lg lp k (by omega) rd np (by omega) M hG hL hR g g2 (by omega) (by omega)) ⟨hx, hb, hml, hown, hts⟩ (cwV 2 hts gX6_secondarySpectrum_X6_e rfl rfl rfl (by decide +kernel) ⟨Nat.le_of_ble_eq_true rfl, Nat.le_of_ble_eq_true rfl⟩) (hP.sub [0, 1, 2, 3, 4, 5, 6, 7, 8] rfl) hK hN (ci := 6) rfl rfl rfl hl.1 rfl (Nat.le_of_ble_eq_true rfl) dX6_secondarySpectrum_41 ⟨Nat.zero_le _, Nat.zero_le _⟩ (fun r hr0 => ?_)
        subst hr0
        refine lv_lstore (lv' := [(4, .long (vE G g g2)), (0, .ref (a 0)), (1, .int (nI g)), (2, .int (nI g2)), (3, .int w)]) hx hb dX6_secondarySpectrum_44 hl (by decide) rfl (fun ls hl => ?_)
        refine lv_lload hx hb dX6_secondarySpectrum_46 (lv_at hl 0 rfl) ?_
        refine lv_lconst (v := 0) hx hb dX6_secondarySpectrum_48 (by decide) ?_
        refine rl_ifne (tgt := 59) hx hb dX6_secondarySpectrum_49 dX6_secondarySpectrum_50 (by decide) (fun h49 => ?_) (fun h49 => ?_)
        · refine lv_ldc2 (v := 1000000) hx hb hown (hts (.constantLong RX6 148 (1000000)) (by decide +kernel)) dX6_secondarySpectrum_59 ?_
          refine lv_iload_n hx hb dX6_secondarySpectrum_62 rfl (lv_at hl 4 rfl) ?_
          refine lv_i2l (v := w.toInt64) hx hb dX6_secondarySpectrum_63 rfl ?_
          refine lv_lmul hx hb dX6_secondarySpectrum_64 ?_
          refine lv_aload_n hx hb dX6_secondarySpectrum_65 rfl (lv_at hl 1 rfl) ?_
          refine lv_iload_n hx hb dX6_secondarySpectrum_66 rfl (lv_at hl 2 rfl) ?_
          refine lv_iload_n hx hb dX6_secondarySpectrum_67 rfl (lv_at hl 3 rfl) ?_
          refine roVl (As := [.int (nI g), .int (nI g2)]) (rest := [.long (1000000 * w.toInt64)]) (c_X6_spectrum l dC dI cI cJ a bf ln (by omega) G n (by omega) lg lp k (by omega) rd np (by omega) M hG hL hR g g2 (by omega) (by omega)) ⟨hx, hb, hml, hown, hts⟩ (cwV 2 hts gX6_secondarySpectrum_X6_spectrum rfl rfl rfl (by decide +kernel) ⟨Nat.le_of_ble_eq_true rfl, Nat.le_of_ble_eq_true rfl⟩) (hP.sub [0, 1, 2, 3, 4, 5, 6, 7, 8] rfl) hK hN (ci := 6) rfl rfl rfl hl.1 rfl (Nat.le_of_ble_eq_true rfl) dX6_secondarySpectrum_68 ⟨Nat.zero_le _, Nat.zero_le _⟩ (fun r hr0 => ?_)
          subst hr0
          refine lv_lmul hx hb dX6_secondarySpectrum_71 ?_
          refine lv_lload hx hb dX6_secondarySpectrum_72 (lv_at hl 0 rfl) ?_
          refine stSl (As := [.long ((1000000 * w.toInt64) * (vX G g2 g)), .long (vE G g g2)]) (rest := []) (c_X6_floor l ((1000000 * w.toInt64) * (vX G g2 g)) (vE G g g2) (by assumption)) ⟨hx, hb, hml, hown, hts⟩ (va_cwS 2 hts gX6_secondarySpectrum_X6_floor rfl rfl rfl (by decide +kernel) ⟨Nat.le_of_ble_eq_true rfl, Nat.le_of_ble_eq_true rfl⟩) rfl hl.1 rfl (Nat.le_of_ble_eq_true rfl) dX6_secondarySpectrum_74 ⟨Nat.zero_le _, Nat.zero_le _⟩ (fun r hr0 => ?_)
          subst hr0
          exact W.lret hx hb hr (fun t ht hW => ⟨_, rfl, by rw [sSec, if_pos ⟨h5, h13⟩, if_pos h31, ix_nI (by omega), ix_nI (by omega), if_neg h49], ht⟩) (fun _ h => absurd h List.not_mem_nil) dX6_secondarySpectrum_77
        · refine lv_ldc2 (v := (-9000000000000000008)) hx hb hown (hts (.constantLong RX6 134 (-9000000000000000008)) (by decide +kernel)) dX6_secondarySpectrum_53 ?_
          refine lv_goto (tgt := 77) hx hb dX6_secondarySpectrum_56 (by decide) ?_
          exact W.lret hx hb hr (fun t ht hW => ⟨_, rfl, by rw [sSec, if_pos ⟨h5, h13⟩, if_pos h31, ix_nI (by omega), ix_nI (by omega), if_pos h49], ht⟩) (fun _ h => absurd h List.not_mem_nil) dX6_secondarySpectrum_77
      · have h31 := fun qq => h31 (Iff.mpr (w_iff w (-10000) 10000 (by decide) (by decide)) qq)
        refine lv_ldc2 (v := (-9000000000000000001)) hx hb hown (hts (.constantLong RX6 53 (-9000000000000000001)) (by decide +kernel)) dX6_secondarySpectrum_34 ?_
        exact W.lret hx hb hr (fun t ht hW => ⟨_, rfl, by rw [sSec, if_pos ⟨h5, h13⟩, if_neg h31], ht⟩) (fun _ h => absurd h List.not_mem_nil) dX6_secondarySpectrum_37
    · refine lv_ldc2 (v := (-9000000000000000002)) hx hb hown (hts (.constantLong RX6 104 (-9000000000000000002)) (by decide +kernel)) dX6_secondarySpectrum_16 ?_
      exact W.lret hx hb hr (fun t ht hW => ⟨_, rfl, by rw [sSec, if_neg (fun w => h13 w.2)], ht⟩) (fun _ h => absurd h List.not_mem_nil) dX6_secondarySpectrum_19
