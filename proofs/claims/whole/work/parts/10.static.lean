set_option maxHeartbeats 4000000 in
set_option maxRecDepth 100000 in
theorem c_J9_floorDiv_f86c9 (l : Launch) (a b : Int64) (hb0 : ¬ b = 0) : Met l yJ9_floorDiv_f86c9 wsJ9_floorDiv_f86c9 ({ frames := 0, cells := 0, slots := 0, locals := 0 }) (va_Pc [.long a, .long b] (fun _ => True)) (vp_Sl (fun r => r = fdiv a b)) 0 0 (fun _ => False) := by
  refine met_ofWF (cc := cJ9_floorDiv_f86c9) (maxL := 6) (ret := (some .long)) (by decide +kernel) rfl ?_
  intro p e s m args below meth c s₁ B hml hv
  obtain ⟨rfl, -⟩ := hv
  have hx := B.exec
  have hb := B.bytes
  have hr := B.returns
  have hts := atoms_spec (ws := wsJ9_floorDiv_f86c9) B.pre
  have hown : s.vm.findClass RJ9 = some m.cls := findClass_of_methodNamed B.named
  have hlocks := B.notSynchronized
  have hl := lv_entry ([.long a, .long b]) (n := 6) (Nat.le_of_ble_eq_true rfl)
  rw [lg_entry_eq]
  generalize (lg_sl ([.long a, .long b]) ++ List.replicate (6 - (lg_sl ([.long a, .long b])).length) Slot.unset).toArray = ls at hl ⊢
  have hl : lv_has ls 6 [(0, .long a), (2, .long b)] := hl
  refine lv_lload_n hx hb dJ9_floorDiv_f86c9_0 rfl (lv_at hl 0 rfl) ?_
  refine lv_lload_n hx hb dJ9_floorDiv_f86c9_1 rfl (lv_at hl 1 rfl) ?_
  refine lv_ldiv hx hb dJ9_floorDiv_f86c9_2 (hb0) ?_
  refine lv_lstore (lv' := [(4, .long (a / b)), (0, .long a), (2, .long b)]) hx hb dJ9_floorDiv_f86c9_3 hl (by decide) rfl (fun ls hl => ?_)
  refine lv_lload_n hx hb dJ9_floorDiv_f86c9_5 rfl (lv_at hl 1 rfl) ?_
  refine lv_lload_n hx hb dJ9_floorDiv_f86c9_6 rfl (lv_at hl 2 rfl) ?_
  refine lv_lxor hx hb dJ9_floorDiv_f86c9_7 ?_
  refine lv_lconst (v := 0) hx hb dJ9_floorDiv_f86c9_8 (by decide) ?_
  refine rl_ifge (tgt := 27) hx hb dJ9_floorDiv_f86c9_9 dJ9_floorDiv_f86c9_10 (by decide) (fun h9 => ?_) (fun h9 => ?_)
  · refine lv_lload hx hb dJ9_floorDiv_f86c9_27 (lv_at hl 0 rfl) ?_
    exact W.lret hx hb hr (fun t ht hW => ⟨_, rfl, (if_neg (fun q => h9 q.1)).symm, ht⟩) (fun _ h => absurd h List.not_mem_nil) dJ9_floorDiv_f86c9_29
  · refine lv_lload hx hb dJ9_floorDiv_f86c9_13 (lv_at hl 0 rfl) ?_
    refine lv_lload_n hx hb dJ9_floorDiv_f86c9_15 rfl (lv_at hl 2 rfl) ?_
    refine lv_lmul hx hb dJ9_floorDiv_f86c9_16 ?_
    refine lv_lload_n hx hb dJ9_floorDiv_f86c9_17 rfl (lv_at hl 1 rfl) ?_
    refine rl_ifeq (tgt := 27) hx hb dJ9_floorDiv_f86c9_18 dJ9_floorDiv_f86c9_19 (by decide) (fun h18 => ?_) (fun h18 => ?_)
    · refine lv_lload hx hb dJ9_floorDiv_f86c9_27 (lv_at hl 0 rfl) ?_
      exact W.lret hx hb hr (fun t ht hW => ⟨_, rfl, (if_neg (fun q => q.2 h18)).symm, ht⟩) (fun _ h => absurd h List.not_mem_nil) dJ9_floorDiv_f86c9_29
    · refine lv_lload hx hb dJ9_floorDiv_f86c9_22 (lv_at hl 0 rfl) ?_
      refine lv_lconst (v := 1) hx hb dJ9_floorDiv_f86c9_24 (by decide) ?_
      refine lv_lsub hx hb dJ9_floorDiv_f86c9_25 ?_
      exact W.lret hx hb hr (fun t ht hW => ⟨_, rfl, (if_pos ⟨h9, h18⟩).symm, ht⟩) (fun _ h => absurd h List.not_mem_nil) dJ9_floorDiv_f86c9_26

set_option maxHeartbeats 4000000 in
set_option maxRecDepth 100000 in
theorem c_J13_compare_74951 (l : Launch) (a b : Int64) : Met l yJ13_compare_74951 wsJ13_compare_74951 ({ frames := 0, cells := 0, slots := 0, locals := 0 }) (va_Pc [.long a, .long b] (fun _ => True)) (vp_Si (fun r => r = lcm a b)) 0 0 (fun _ => False) := by
  refine met_ofWF (cc := cJ13_compare_74951) (maxL := 4) (ret := (some .int)) (by decide +kernel) rfl ?_
  intro p e s m args below meth c s₁ B hml hv
  obtain ⟨rfl, -⟩ := hv
  have hx := B.exec
  have hb := B.bytes
  have hr := B.returns
  have hts := atoms_spec (ws := wsJ13_compare_74951) B.pre
  have hown : s.vm.findClass RJ13 = some m.cls := findClass_of_methodNamed B.named
  have hlocks := B.notSynchronized
  have hl := lv_entry ([.long a, .long b]) (n := 4) (Nat.le_of_ble_eq_true rfl)
  rw [lg_entry_eq]
  generalize (lg_sl ([.long a, .long b]) ++ List.replicate (4 - (lg_sl ([.long a, .long b])).length) Slot.unset).toArray = ls at hl ⊢
  have hl : lv_has ls 4 [(0, .long a), (2, .long b)] := hl
  refine lv_lload_n hx hb dJ13_compare_74951_0 rfl (lv_at hl 0 rfl) ?_
  refine lv_lload_n hx hb dJ13_compare_74951_1 rfl (lv_at hl 1 rfl) ?_
  refine rl_ifge (tgt := 10) hx hb dJ13_compare_74951_2 dJ13_compare_74951_3 (by decide) (fun h2 => ?_) (fun h2 => ?_)
  · refine lv_lload_n hx hb dJ13_compare_74951_10 rfl (lv_at hl 0 rfl) ?_
    refine lv_lload_n hx hb dJ13_compare_74951_11 rfl (lv_at hl 1 rfl) ?_
    refine rl_ifne (tgt := 20) hx hb dJ13_compare_74951_12 dJ13_compare_74951_13 (by decide) (fun h12 => ?_) (fun h12 => ?_)
    · refine lv_iconst (v := 1) hx hb dJ13_compare_74951_20 (by decide) ?_
      exact W.iret hx hb hr (fun t ht hW => ⟨_, rfl, by first | rw [lcm, if_neg h2, if_neg h12] | rw [lcm, if_neg h2, if_pos h12], ht⟩) (fun _ h => absurd h List.not_mem_nil) dJ13_compare_74951_21
    · refine lv_iconst (v := 0) hx hb dJ13_compare_74951_16 (by decide) ?_
      refine lv_goto (tgt := 21) hx hb dJ13_compare_74951_17 (by decide) ?_
      exact W.iret hx hb hr (fun t ht hW => ⟨_, rfl, by first | rw [lcm, if_neg h2, if_neg h12] | rw [lcm, if_neg h2, if_pos h12], ht⟩) (fun _ h => absurd h List.not_mem_nil) dJ13_compare_74951_21
  · refine lv_iconst (v := (-1)) hx hb dJ13_compare_74951_6 (by decide) ?_
    refine lv_goto (tgt := 21) hx hb dJ13_compare_74951_7 (by decide) ?_
    exact W.iret hx hb hr (fun t ht hW => ⟨_, rfl, by rw [lcm, if_pos h2], ht⟩) (fun _ h => absurd h List.not_mem_nil) dJ13_compare_74951_21

set_option maxHeartbeats 4000000 in
set_option maxRecDepth 100000 in
theorem c_X5_floorQuotient (l : Launch) (a b : Int64) : Met l yX5_floorQuotient wsX5_floorQuotient ({ frames := 1, cells := 0, slots := 0, locals := 25 }) (va_Pc [.long a, .long b] (fun _ => True)) (vp_Sl (fun r => r = fq a b)) 0 0 (fun _ => False) := by
  refine Met.ofW (cc := cX5_floorQuotient) (maxL := 4) (ret := (some .long)) (by decide) rfl ?_
  intro p e s m args below meth c s₁ B hml hv
  obtain ⟨rfl, -⟩ := hv
  have hx := B.exec
  have hb := B.bytes
  have hr := B.returns
  have hts := atoms_spec (ws := wsX5_floorQuotient) B.pre
  have hown : s.vm.findClass RX5 = some m.cls := findClass_of_methodNamed B.named
  have hlocks := B.notSynchronized
  have hl := lv_entry ([.long a, .long b]) (n := 4) (Nat.le_of_ble_eq_true rfl)
  rw [lg_entry_eq]
  generalize (lg_sl ([.long a, .long b]) ++ List.replicate (4 - (lg_sl ([.long a, .long b])).length) Slot.unset).toArray = ls at hl ⊢
  have hl : lv_has ls 4 [(0, .long a), (2, .long b)] := hl
  refine lv_lload_n hx hb dX5_floorQuotient_0 rfl (lv_at hl 1 rfl) ?_
  refine lv_lconst (v := 0) hx hb dX5_floorQuotient_1 (by decide) ?_
  refine rl_ifne (tgt := 10) hx hb dX5_floorQuotient_2 dX5_floorQuotient_3 (by decide) (fun h2 => ?_) (fun h2 => ?_)
  · refine lv_lload_n hx hb dX5_floorQuotient_10 rfl (lv_at hl 0 rfl) ?_
    refine lv_lload_n hx hb dX5_floorQuotient_11 rfl (lv_at hl 1 rfl) ?_
    refine stSl (As := [.long a, .long b]) (rest := []) (c_J9_floorDiv_f86c9 l a b h2) ⟨hx, hb, hml, hown, hts⟩ (va_cwS 2 hts gX5_floorQuotient_J9_floorDiv_f86c9 rfl rfl rfl (by decide +kernel) ⟨Nat.le_of_ble_eq_true rfl, Nat.le_of_ble_eq_true rfl⟩) rfl hl.1 rfl (Nat.le_of_ble_eq_true rfl) dX5_floorQuotient_12 ⟨Nat.zero_le _, Nat.zero_le _⟩ (fun r hr0 => ?_)
    subst hr0
    exact W.lret hx hb hr (fun t ht hW => ⟨_, rfl, by first | rw [fq, if_neg h2] | rw [fq, if_pos h2], ht⟩) (fun _ h => absurd h List.not_mem_nil) dX5_floorQuotient_15
  · refine lv_lconst (v := 0) hx hb dX5_floorQuotient_6 (by decide) ?_
    refine lv_goto (tgt := 15) hx hb dX5_floorQuotient_7 (by decide) ?_
    exact W.lret hx hb hr (fun t ht hW => ⟨_, rfl, by first | rw [fq, if_neg h2] | rw [fq, if_pos h2], ht⟩) (fun _ h => absurd h List.not_mem_nil) dX5_floorQuotient_15

set_option maxHeartbeats 4000000 in
set_option maxRecDepth 100000 in
theorem c_X5_isColour (l : Launch) (x : Int32) : Met l yX5_isColour wsX5_isColour ({ frames := 0, cells := 0, slots := 0, locals := 0 }) (va_Pc [.int x] (fun _ => True)) (vp_Si (fun r => r = if isCol x then 1 else 0)) 0 0 (fun _ => False) := by
  refine Met.ofW (cc := cX5_isColour) (maxL := 1) (ret := (some .boolean)) (by decide) rfl ?_
  intro p e s m args below meth c s₁ B hml hv
  obtain ⟨rfl, -⟩ := hv
  have hx := B.exec
  have hb := B.bytes
  have hr := B.returns
  have hts := atoms_spec (ws := wsX5_isColour) B.pre
  have hown : s.vm.findClass RX5 = some m.cls := findClass_of_methodNamed B.named
  have hlocks := B.notSynchronized
  have hl := lv_entry ([.int x]) (n := 1) (Nat.le_of_ble_eq_true rfl)
  rw [lg_entry_eq]
  generalize (lg_sl ([.int x]) ++ List.replicate (1 - (lg_sl ([.int x])).length) Slot.unset).toArray = ls at hl ⊢
  have hl : lv_has ls 1 [(0, .int x)] := hl
  refine lv_iload_n hx hb dX5_isColour_0 rfl (lv_at hl 0 rfl) ?_
  refine lv_if_lt (tgt := 13) hx hb dX5_isColour_1 (by decide) (fun h1 => ?_) (fun h1 => ?_)
  · refine lv_iconst (v := 0) hx hb dX5_isColour_13 (by decide) ?_
    exact W.zret hx hb hr (by decide) (fun t ht hW => ⟨_, rfl, (if_neg (fun q => absurd q.1 (Int32.not_le.mpr h1))).symm, ht⟩) (fun _ h => absurd h List.not_mem_nil) dX5_isColour_14
  · refine lv_iload_n hx hb dX5_isColour_4 rfl (lv_at hl 0 rfl) ?_
    refine lv_iconst (v := 2) hx hb dX5_isColour_5 (by decide) ?_
    refine lv_icmp_gt (tgt := 13) hx hb dX5_isColour_6 (by decide) (fun h6 => ?_) (fun h6 => ?_)
    · refine lv_iconst (v := 0) hx hb dX5_isColour_13 (by decide) ?_
      exact W.zret hx hb hr (by decide) (fun t ht hW => ⟨_, rfl, (if_neg (fun q => absurd q.2 (Int32.not_le.mpr h6))).symm, ht⟩) (fun _ h => absurd h List.not_mem_nil) dX5_isColour_14
    · refine lv_iconst (v := 1) hx hb dX5_isColour_9 (by decide) ?_
      refine lv_goto (tgt := 14) hx hb dX5_isColour_10 (by decide) ?_
      exact W.zret hx hb hr (by decide) (fun t ht hW => ⟨_, rfl, (if_pos ⟨Int32.not_lt.mp h1, Int32.not_lt.mp h6⟩).symm, ht⟩) (fun _ h => absurd h List.not_mem_nil) dX5_isColour_14

set_option maxHeartbeats 4000000 in
set_option maxRecDepth 100000 in
theorem c_X5_isDesignPower (l : Launch) (x : Int32) : Met l yX5_isDesignPower wsX5_isDesignPower ({ frames := 0, cells := 0, slots := 0, locals := 0 }) (va_Pc [.int x] (fun _ => True)) (vp_Si (fun r => r = if isPow x then 1 else 0)) 0 0 (fun _ => False) := by
  refine Met.ofW (cc := cX5_isDesignPower) (maxL := 1) (ret := (some .boolean)) (by decide) rfl ?_
  intro p e s m args below meth c s₁ B hml hv
  obtain ⟨rfl, -⟩ := hv
  have hx := B.exec
  have hb := B.bytes
  have hr := B.returns
  have hts := atoms_spec (ws := wsX5_isDesignPower) B.pre
  have hown : s.vm.findClass RX5 = some m.cls := findClass_of_methodNamed B.named
  have hlocks := B.notSynchronized
  have hl := lv_entry ([.int x]) (n := 1) (Nat.le_of_ble_eq_true rfl)
  rw [lg_entry_eq]
  generalize (lg_sl ([.int x]) ++ List.replicate (1 - (lg_sl ([.int x])).length) Slot.unset).toArray = ls at hl ⊢
  have hl : lv_has ls 1 [(0, .int x)] := hl
  refine lv_iload_n hx hb dX5_isDesignPower_0 rfl (lv_at hl 0 rfl) ?_
  refine lv_sipush (v := (-10000)) hx hb dX5_isDesignPower_1 (by decide) ?_
  refine lv_icmp_lt (tgt := 18) hx hb dX5_isDesignPower_4 (by decide) (fun h4 => ?_) (fun h4 => ?_)
  · refine lv_iconst (v := 0) hx hb dX5_isDesignPower_18 (by decide) ?_
    exact W.zret hx hb hr (by decide) (fun t ht hW => ⟨_, rfl, (if_neg (fun q => absurd q.1 (Int32.not_le.mpr h4))).symm, ht⟩) (fun _ h => absurd h List.not_mem_nil) dX5_isDesignPower_19
  · refine lv_iload_n hx hb dX5_isDesignPower_7 rfl (lv_at hl 0 rfl) ?_
    refine lv_sipush (v := 10000) hx hb dX5_isDesignPower_8 (by decide) ?_
    refine lv_icmp_gt (tgt := 18) hx hb dX5_isDesignPower_11 (by decide) (fun h11 => ?_) (fun h11 => ?_)
    · refine lv_iconst (v := 0) hx hb dX5_isDesignPower_18 (by decide) ?_
      exact W.zret hx hb hr (by decide) (fun t ht hW => ⟨_, rfl, (if_neg (fun q => absurd q.2 (Int32.not_le.mpr h11))).symm, ht⟩) (fun _ h => absurd h List.not_mem_nil) dX5_isDesignPower_19
    · refine lv_iconst (v := 1) hx hb dX5_isDesignPower_14 (by decide) ?_
      refine lv_goto (tgt := 19) hx hb dX5_isDesignPower_15 (by decide) ?_
      exact W.zret hx hb hr (by decide) (fun t ht hW => ⟨_, rfl, (if_pos ⟨Int32.not_lt.mp h4, Int32.not_lt.mp h11⟩).symm, ht⟩) (fun _ h => absurd h List.not_mem_nil) dX5_isDesignPower_19

set_option maxHeartbeats 4000000 in
set_option maxRecDepth 100000 in
theorem c_X5_isMeasurable (l : Launch) (x : Int64) : Met l yX5_isMeasurable wsX5_isMeasurable ({ frames := 0, cells := 0, slots := 0, locals := 0 }) (va_Pc [.long x] (fun _ => True)) (vp_Si (fun r => r = if isMea x then 1 else 0)) 0 0 (fun _ => False) := by
  refine Met.ofW (cc := cX5_isMeasurable) (maxL := 2) (ret := (some .boolean)) (by decide) rfl ?_
  intro p e s m args below meth c s₁ B hml hv
  obtain ⟨rfl, -⟩ := hv
  have hx := B.exec
  have hb := B.bytes
  have hr := B.returns
  have hts := atoms_spec (ws := wsX5_isMeasurable) B.pre
  have hown : s.vm.findClass RX5 = some m.cls := findClass_of_methodNamed B.named
  have hlocks := B.notSynchronized
  have hl := lv_entry ([.long x]) (n := 2) (Nat.le_of_ble_eq_true rfl)
  rw [lg_entry_eq]
  generalize (lg_sl ([.long x]) ++ List.replicate (2 - (lg_sl ([.long x])).length) Slot.unset).toArray = ls at hl ⊢
  have hl : lv_has ls 2 [(0, .long x)] := hl
  refine lv_lload_n hx hb dX5_isMeasurable_0 rfl (lv_at hl 0 rfl) ?_
  refine lv_ldc2 (v := (-1000000000000)) hx hb hown (hts (.constantLong RX5 252 (-1000000000000)) (by decide +kernel)) dX5_isMeasurable_1 ?_
  refine rl_iflt (tgt := 20) hx hb dX5_isMeasurable_4 dX5_isMeasurable_5 (by decide) (fun h4 => ?_) (fun h4 => ?_)
  · refine lv_iconst (v := 0) hx hb dX5_isMeasurable_20 (by decide) ?_
    exact W.zret hx hb hr (by decide) (fun t ht hW => ⟨_, rfl, (if_neg (fun q => absurd q.1 (Int64.not_le.mpr h4))).symm, ht⟩) (fun _ h => absurd h List.not_mem_nil) dX5_isMeasurable_21
  · refine lv_lload_n hx hb dX5_isMeasurable_8 rfl (lv_at hl 0 rfl) ?_
    refine lv_ldc2 (v := 1000000000000) hx hb hown (hts (.constantLong RX5 254 (1000000000000)) (by decide +kernel)) dX5_isMeasurable_9 ?_
    refine rl_ifgt (tgt := 20) hx hb dX5_isMeasurable_12 dX5_isMeasurable_13 (by decide) (fun h12 => ?_) (fun h12 => ?_)
    · refine lv_iconst (v := 0) hx hb dX5_isMeasurable_20 (by decide) ?_
      exact W.zret hx hb hr (by decide) (fun t ht hW => ⟨_, rfl, (if_neg (fun q => absurd q.2 (Int64.not_le.mpr h12))).symm, ht⟩) (fun _ h => absurd h List.not_mem_nil) dX5_isMeasurable_21
    · refine lv_iconst (v := 1) hx hb dX5_isMeasurable_16 (by decide) ?_
      refine lv_goto (tgt := 21) hx hb dX5_isMeasurable_17 (by decide) ?_
      exact W.zret hx hb hr (by decide) (fun t ht hW => ⟨_, rfl, (if_pos ⟨Int64.not_lt.mp h4, Int64.not_lt.mp h12⟩).symm, ht⟩) (fun _ h => absurd h List.not_mem_nil) dX5_isMeasurable_21

set_option maxHeartbeats 4000000 in
set_option maxRecDepth 100000 in
theorem c_X5_areGlassIndices (l : Launch) (f d k : Int32) : Met l yX5_areGlassIndices wsX5_areGlassIndices ({ frames := 0, cells := 0, slots := 0, locals := 0 }) (va_Pc [.int f, .int d, .int k] (fun _ => True)) (vp_Si (fun r => r = if isGl f d k then 1 else 0)) 0 0 (fun _ => False) := by
  refine Met.ofW (cc := cX5_areGlassIndices) (maxL := 3) (ret := (some .boolean)) (by decide) rfl ?_
  intro p e s m args below meth c s₁ B hml hv
  obtain ⟨rfl, -⟩ := hv
  have hx := B.exec
  have hb := B.bytes
  have hr := B.returns
  have hts := atoms_spec (ws := wsX5_areGlassIndices) B.pre
  have hown : s.vm.findClass RX5 = some m.cls := findClass_of_methodNamed B.named
  have hlocks := B.notSynchronized
  have hl := lv_entry ([.int f, .int d, .int k]) (n := 3) (Nat.le_of_ble_eq_true rfl)
  rw [lg_entry_eq]
  generalize (lg_sl ([.int f, .int d, .int k]) ++ List.replicate (3 - (lg_sl ([.int f, .int d, .int k])).length) Slot.unset).toArray = ls at hl ⊢
  have hl : lv_has ls 3 [(0, .int f), (1, .int d), (2, .int k)] := hl
  refine lv_ldcw (v := 130000) hx hb hown (hts (.constant RX5 256 (130000)) (by decide +kernel)) dX5_areGlassIndices_0 ?_
  refine lv_iload_n hx hb dX5_areGlassIndices_3 rfl (lv_at hl 2 rfl) ?_
  refine lv_icmp_gt (tgt := 37) hx hb dX5_areGlassIndices_4 (by decide) (fun h4 => ?_) (fun h4 => ?_)
  · refine lv_iconst (v := 0) hx hb dX5_areGlassIndices_37 (by decide) ?_
    exact W.zret hx hb hr (by decide) (fun t ht hW => ⟨_, rfl, (if_neg (fun q => absurd q.1 (Int32.not_le.mpr h4))).symm, ht⟩) (fun _ h => absurd h List.not_mem_nil) dX5_areGlassIndices_38
  · refine lv_iload_n hx hb dX5_areGlassIndices_7 rfl (lv_at hl 2 rfl) ?_
    refine lv_iload_n hx hb dX5_areGlassIndices_8 rfl (lv_at hl 1 rfl) ?_
    refine lv_icmp_ge (tgt := 37) hx hb dX5_areGlassIndices_9 (by decide) (fun h9 => ?_) (fun h9 => ?_)
    · refine lv_iconst (v := 0) hx hb dX5_areGlassIndices_37 (by decide) ?_
      exact W.zret hx hb hr (by decide) (fun t ht hW => ⟨_, rfl, (if_neg (fun q => absurd q.2.1 (Int32.not_lt.mpr h9))).symm, ht⟩) (fun _ h => absurd h List.not_mem_nil) dX5_areGlassIndices_38
    · refine lv_iload_n hx hb dX5_areGlassIndices_12 rfl (lv_at hl 1 rfl) ?_
      refine lv_iload_n hx hb dX5_areGlassIndices_13 rfl (lv_at hl 0 rfl) ?_
      refine lv_icmp_ge (tgt := 37) hx hb dX5_areGlassIndices_14 (by decide) (fun h14 => ?_) (fun h14 => ?_)
      · refine lv_iconst (v := 0) hx hb dX5_areGlassIndices_37 (by decide) ?_
        exact W.zret hx hb hr (by decide) (fun t ht hW => ⟨_, rfl, (if_neg (fun q => absurd q.2.2.1 (Int32.not_lt.mpr h14))).symm, ht⟩) (fun _ h => absurd h List.not_mem_nil) dX5_areGlassIndices_38
      · refine lv_iload_n hx hb dX5_areGlassIndices_17 rfl (lv_at hl 0 rfl) ?_
        refine lv_ldcw (v := 230000) hx hb hown (hts (.constant RX5 257 (230000)) (by decide +kernel)) dX5_areGlassIndices_18 ?_
        refine lv_icmp_gt (tgt := 37) hx hb dX5_areGlassIndices_21 (by decide) (fun h21 => ?_) (fun h21 => ?_)
        · refine lv_iconst (v := 0) hx hb dX5_areGlassIndices_37 (by decide) ?_
          exact W.zret hx hb hr (by decide) (fun t ht hW => ⟨_, rfl, (if_neg (fun q => absurd q.2.2.2.1 (Int32.not_le.mpr h21))).symm, ht⟩) (fun _ h => absurd h List.not_mem_nil) dX5_areGlassIndices_38
        · refine lv_iload_n hx hb dX5_areGlassIndices_24 rfl (lv_at hl 0 rfl) ?_
          refine lv_iload_n hx hb dX5_areGlassIndices_25 rfl (lv_at hl 2 rfl) ?_
          refine lv_isub hx hb dX5_areGlassIndices_26 ?_
          refine lv_sipush (v := 9999) hx hb dX5_areGlassIndices_27 (by decide) ?_
          refine lv_icmp_gt (tgt := 37) hx hb dX5_areGlassIndices_30 (by decide) (fun h30 => ?_) (fun h30 => ?_)
          · refine lv_iconst (v := 0) hx hb dX5_areGlassIndices_37 (by decide) ?_
            exact W.zret hx hb hr (by decide) (fun t ht hW => ⟨_, rfl, (if_neg (fun q => absurd q.2.2.2.2 (Int32.not_le.mpr h30))).symm, ht⟩) (fun _ h => absurd h List.not_mem_nil) dX5_areGlassIndices_38
          · refine lv_iconst (v := 1) hx hb dX5_areGlassIndices_33 (by decide) ?_
            refine lv_goto (tgt := 38) hx hb dX5_areGlassIndices_34 (by decide) ?_
            exact W.zret hx hb hr (by decide) (fun t ht hW => ⟨_, rfl, (if_pos ⟨Int32.not_lt.mp h4, Int32.not_le.mp h9, Int32.not_le.mp h14, Int32.not_lt.mp h21, Int32.not_lt.mp h30⟩).symm, ht⟩) (fun _ h => absurd h List.not_mem_nil) dX5_areGlassIndices_38

set_option maxHeartbeats 4000000 in
set_option maxRecDepth 100000 in
theorem c_X5_absolutePower (l : Launch) (a b : Int64) : Met l yX5_absolutePower wsX5_absolutePower ({ frames := 2, cells := 0, slots := 0, locals := 48 }) (va_Pc [.long a, .long b] (fun _ => True)) (vp_Sl (fun r => r = labs (fq (10000 * a) b))) 0 0 (fun _ => False) := by
  refine Met.ofW (cc := cX5_absolutePower) (maxL := 4) (ret := (some .long)) (by decide) rfl ?_
  intro p e s m args below meth c s₁ B hml hv
  obtain ⟨rfl, -⟩ := hv
  have hx := B.exec
  have hb := B.bytes
  have hr := B.returns
  have hts := atoms_spec (ws := wsX5_absolutePower) B.pre
  have hown : s.vm.findClass RX5 = some m.cls := findClass_of_methodNamed B.named
  have hlocks := B.notSynchronized
  have hl := lv_entry ([.long a, .long b]) (n := 4) (Nat.le_of_ble_eq_true rfl)
  rw [lg_entry_eq]
  generalize (lg_sl ([.long a, .long b]) ++ List.replicate (4 - (lg_sl ([.long a, .long b])).length) Slot.unset).toArray = ls at hl ⊢
  have hl : lv_has ls 4 [(0, .long a), (2, .long b)] := hl
  refine lv_ldc2 (v := 10000) hx hb hown (hts (.constantLong RX5 267 (10000)) (by decide +kernel)) dX5_absolutePower_0 ?_
  refine lv_lload_n hx hb dX5_absolutePower_3 rfl (lv_at hl 0 rfl) ?_
  refine lv_lmul hx hb dX5_absolutePower_4 ?_
  refine lv_lload_n hx hb dX5_absolutePower_5 rfl (lv_at hl 1 rfl) ?_
  refine stSl (As := [.long (10000 * a), .long b]) (rest := []) (c_X5_floorQuotient l (10000 * a) b) ⟨hx, hb, hml, hown, hts⟩ (va_cwS 2 hts gX5_absolutePower_X5_floorQuotient rfl rfl rfl (by decide +kernel) ⟨Nat.le_of_ble_eq_true rfl, Nat.le_of_ble_eq_true rfl⟩) rfl hl.1 rfl (Nat.le_of_ble_eq_true rfl) dX5_absolutePower_6 ⟨Nat.zero_le _, Nat.zero_le _⟩ (fun r hr0 => ?_)
  subst hr0
  refine va_mabs_long hx hb (by rw [hml]; exact hl.1.symm) hown (hts (.methodLink RX5 218 Lib.MathLoose.abs_long.x) (by decide +kernel)) (hts (.static Lib.MathLoose.abs_long.x) (by decide +kernel)) (hts (.initialized "java/lang/Math") (by decide +kernel)) (hts (.code Lib.MathLoose.abs_long.x Lib.MathLoose.abs_long.code 2 (some .long)) (by decide +kernel)) (Nat.le_of_ble_eq_true rfl) (Nat.le_of_ble_eq_true rfl) (Nat.zero_le _) (Nat.zero_le _) dX5_absolutePower_9 ?_
  exact W.lret hx hb hr (fun t ht hW => ⟨_, rfl, rfl, ht⟩) (fun _ h => absurd h List.not_mem_nil) dX5_absolutePower_12

set_option maxHeartbeats 4000000 in
set_option maxRecDepth 100000 in
theorem c_X5_mixed (l : Launch) (h v : Int64) : Met l yX5_mixed wsX5_mixed ({ frames := 0, cells := 0, slots := 0, locals := 0 }) (va_Pc [.long h, .long v] (fun _ => True)) (vp_Sl (fun r => r = mixL h v)) 0 0 (fun _ => False) := by
  refine Met.ofW (cc := cX5_mixed) (maxL := 4) (ret := (some .long)) (by decide) rfl ?_
  intro p e s m args below meth c s₁ B hml hv
  obtain ⟨rfl, -⟩ := hv
  have hx := B.exec
  have hb := B.bytes
  have hr := B.returns
  have hts := atoms_spec (ws := wsX5_mixed) B.pre
  have hown : s.vm.findClass RX5 = some m.cls := findClass_of_methodNamed B.named
  have hlocks := B.notSynchronized
  have hl := lv_entry ([.long h, .long v]) (n := 4) (Nat.le_of_ble_eq_true rfl)
  rw [lg_entry_eq]
  generalize (lg_sl ([.long h, .long v]) ++ List.replicate (4 - (lg_sl ([.long h, .long v])).length) Slot.unset).toArray = ls at hl ⊢
  have hl : lv_has ls 4 [(0, .long h), (2, .long v)] := hl
  refine lv_ldc2 (v := 31) hx hb hown (hts (.constantLong RX5 278 (31)) (by decide +kernel)) dX5_mixed_0 ?_
  refine lv_lload_n hx hb dX5_mixed_3 rfl (lv_at hl 0 rfl) ?_
  refine lv_lmul hx hb dX5_mixed_4 ?_
  refine lv_lload_n hx hb dX5_mixed_5 rfl (lv_at hl 1 rfl) ?_
  refine lv_ladd hx hb dX5_mixed_6 ?_
  exact W.lret hx hb hr (fun t ht hW => ⟨_, rfl, rfl, ht⟩) (fun _ h => absurd h List.not_mem_nil) dX5_mixed_7

set_option maxHeartbeats 4000000 in
set_option maxRecDepth 100000 in
theorem c_X2_isLetter (l : Launch) (x : Int32) : Met l yX2_isLetter wsX2_isLetter ({ frames := 0, cells := 0, slots := 0, locals := 0 }) (va_Pc [.int x] (fun _ => True)) (vp_Si (fun r => r = if isLet x then 1 else 0)) 0 0 (fun _ => False) := by
  refine Met.ofW (cc := cX2_isLetter) (maxL := 1) (ret := (some .boolean)) (by decide) rfl ?_
  intro p e s m args below meth c s₁ B hml hv
  obtain ⟨rfl, -⟩ := hv
  have hx := B.exec
  have hb := B.bytes
  have hr := B.returns
  have hts := atoms_spec (ws := wsX2_isLetter) B.pre
  have hown : s.vm.findClass RX2 = some m.cls := findClass_of_methodNamed B.named
  have hlocks := B.notSynchronized
  have hl := lv_entry ([.int x]) (n := 1) (Nat.le_of_ble_eq_true rfl)
  rw [lg_entry_eq]
  generalize (lg_sl ([.int x]) ++ List.replicate (1 - (lg_sl ([.int x])).length) Slot.unset).toArray = ls at hl ⊢
  have hl : lv_has ls 1 [(0, .int x)] := hl
  refine lv_iload_n hx hb dX2_isLetter_0 rfl (lv_at hl 0 rfl) ?_
  refine lv_bipush (v := 65) hx hb dX2_isLetter_1 (by decide) ?_
  refine lv_icmp_lt (tgt := 16) hx hb dX2_isLetter_3 (by decide) (fun h3 => ?_) (fun h3 => ?_)
  · refine lv_iconst (v := 0) hx hb dX2_isLetter_16 (by decide) ?_
    exact W.zret hx hb hr (by decide) (fun t ht hW => ⟨_, rfl, (if_neg (fun q => absurd q.1 (Int32.not_le.mpr h3))).symm, ht⟩) (fun _ h => absurd h List.not_mem_nil) dX2_isLetter_17
  · refine lv_iload_n hx hb dX2_isLetter_6 rfl (lv_at hl 0 rfl) ?_
    refine lv_bipush (v := 90) hx hb dX2_isLetter_7 (by decide) ?_
    refine lv_icmp_gt (tgt := 16) hx hb dX2_isLetter_9 (by decide) (fun h9 => ?_) (fun h9 => ?_)
    · refine lv_iconst (v := 0) hx hb dX2_isLetter_16 (by decide) ?_
      exact W.zret hx hb hr (by decide) (fun t ht hW => ⟨_, rfl, (if_neg (fun q => absurd q.2 (Int32.not_le.mpr h9))).symm, ht⟩) (fun _ h => absurd h List.not_mem_nil) dX2_isLetter_17
    · refine lv_iconst (v := 1) hx hb dX2_isLetter_12 (by decide) ?_
      refine lv_goto (tgt := 17) hx hb dX2_isLetter_13 (by decide) ?_
      exact W.zret hx hb hr (by decide) (fun t ht hW => ⟨_, rfl, (if_pos ⟨Int32.not_lt.mp h3, Int32.not_lt.mp h9⟩).symm, ht⟩) (fun _ h => absurd h List.not_mem_nil) dX2_isLetter_17

set_option maxHeartbeats 4000000 in
set_option maxRecDepth 100000 in
theorem c_X2_isDigit (l : Launch) (x : Int32) : Met l yX2_isDigit wsX2_isDigit ({ frames := 0, cells := 0, slots := 0, locals := 0 }) (va_Pc [.int x] (fun _ => True)) (vp_Si (fun r => r = if isDig x then 1 else 0)) 0 0 (fun _ => False) := by
  refine Met.ofW (cc := cX2_isDigit) (maxL := 1) (ret := (some .boolean)) (by decide) rfl ?_
  intro p e s m args below meth c s₁ B hml hv
  obtain ⟨rfl, -⟩ := hv
  have hx := B.exec
  have hb := B.bytes
  have hr := B.returns
  have hts := atoms_spec (ws := wsX2_isDigit) B.pre
  have hown : s.vm.findClass RX2 = some m.cls := findClass_of_methodNamed B.named
  have hlocks := B.notSynchronized
  have hl := lv_entry ([.int x]) (n := 1) (Nat.le_of_ble_eq_true rfl)
  rw [lg_entry_eq]
  generalize (lg_sl ([.int x]) ++ List.replicate (1 - (lg_sl ([.int x])).length) Slot.unset).toArray = ls at hl ⊢
  have hl : lv_has ls 1 [(0, .int x)] := hl
  refine lv_iload_n hx hb dX2_isDigit_0 rfl (lv_at hl 0 rfl) ?_
  refine lv_bipush (v := 48) hx hb dX2_isDigit_1 (by decide) ?_
  refine lv_icmp_lt (tgt := 16) hx hb dX2_isDigit_3 (by decide) (fun h3 => ?_) (fun h3 => ?_)
  · refine lv_iconst (v := 0) hx hb dX2_isDigit_16 (by decide) ?_
    exact W.zret hx hb hr (by decide) (fun t ht hW => ⟨_, rfl, (if_neg (fun q => absurd q.1 (Int32.not_le.mpr h3))).symm, ht⟩) (fun _ h => absurd h List.not_mem_nil) dX2_isDigit_17
  · refine lv_iload_n hx hb dX2_isDigit_6 rfl (lv_at hl 0 rfl) ?_
    refine lv_bipush (v := 57) hx hb dX2_isDigit_7 (by decide) ?_
    refine lv_icmp_gt (tgt := 16) hx hb dX2_isDigit_9 (by decide) (fun h9 => ?_) (fun h9 => ?_)
    · refine lv_iconst (v := 0) hx hb dX2_isDigit_16 (by decide) ?_
      exact W.zret hx hb hr (by decide) (fun t ht hW => ⟨_, rfl, (if_neg (fun q => absurd q.2 (Int32.not_le.mpr h9))).symm, ht⟩) (fun _ h => absurd h List.not_mem_nil) dX2_isDigit_17
    · refine lv_iconst (v := 1) hx hb dX2_isDigit_12 (by decide) ?_
      refine lv_goto (tgt := 17) hx hb dX2_isDigit_13 (by decide) ?_
      exact W.zret hx hb hr (by decide) (fun t ht hW => ⟨_, rfl, (if_pos ⟨Int32.not_lt.mp h3, Int32.not_lt.mp h9⟩).symm, ht⟩) (fun _ h => absurd h List.not_mem_nil) dX2_isDigit_17

set_option maxHeartbeats 4000000 in
set_option maxRecDepth 100000 in
theorem c_X6_within (l : Launch) (v a b : Int64) : Met l yX6_within wsX6_within ({ frames := 0, cells := 0, slots := 0, locals := 0 }) (va_Pc [.long v, .long a, .long b] (fun _ => True)) (vp_Si (fun r => r = if wthn v a b then 1 else 0)) 0 0 (fun _ => False) := by
  refine Met.ofW (cc := cX6_within) (maxL := 6) (ret := (some .boolean)) (by decide) rfl ?_
  intro p e s m args below meth c s₁ B hml hv
  obtain ⟨rfl, -⟩ := hv
  have hx := B.exec
  have hb := B.bytes
  have hr := B.returns
  have hts := atoms_spec (ws := wsX6_within) B.pre
  have hown : s.vm.findClass RX6 = some m.cls := findClass_of_methodNamed B.named
  have hlocks := B.notSynchronized
  have hl := lv_entry ([.long v, .long a, .long b]) (n := 6) (Nat.le_of_ble_eq_true rfl)
  rw [lg_entry_eq]
  generalize (lg_sl ([.long v, .long a, .long b]) ++ List.replicate (6 - (lg_sl ([.long v, .long a, .long b])).length) Slot.unset).toArray = ls at hl ⊢
  have hl : lv_has ls 6 [(0, .long v), (2, .long a), (4, .long b)] := hl
  refine lv_lload_n hx hb dX6_within_0 rfl (lv_at hl 0 rfl) ?_
  refine lv_lload_n hx hb dX6_within_1 rfl (lv_at hl 1 rfl) ?_
  refine rl_iflt (tgt := 17) hx hb dX6_within_2 dX6_within_3 (by decide) (fun h2 => ?_) (fun h2 => ?_)
  · refine lv_iconst (v := 0) hx hb dX6_within_17 (by decide) ?_
    exact W.zret hx hb hr (by decide) (fun t ht hW => ⟨_, rfl, (if_neg (fun q => absurd q.1 (Int64.not_le.mpr h2))).symm, ht⟩) (fun _ h => absurd h List.not_mem_nil) dX6_within_18
  · refine lv_lload_n hx hb dX6_within_6 rfl (lv_at hl 0 rfl) ?_
    refine lv_lload hx hb dX6_within_7 (lv_at hl 2 rfl) ?_
    refine rl_ifgt (tgt := 17) hx hb dX6_within_9 dX6_within_10 (by decide) (fun h9 => ?_) (fun h9 => ?_)
    · refine lv_iconst (v := 0) hx hb dX6_within_17 (by decide) ?_
      exact W.zret hx hb hr (by decide) (fun t ht hW => ⟨_, rfl, (if_neg (fun q => absurd q.2 (Int64.not_le.mpr h9))).symm, ht⟩) (fun _ h => absurd h List.not_mem_nil) dX6_within_18
    · refine lv_iconst (v := 1) hx hb dX6_within_13 (by decide) ?_
      refine lv_goto (tgt := 18) hx hb dX6_within_14 (by decide) ?_
      exact W.zret hx hb hr (by decide) (fun t ht hW => ⟨_, rfl, (if_pos ⟨Int64.not_lt.mp h2, Int64.not_lt.mp h9⟩).symm, ht⟩) (fun _ h => absurd h List.not_mem_nil) dX6_within_18

set_option maxHeartbeats 4000000 in
set_option maxRecDepth 100000 in
theorem c_X6_size (l : Launch) (v : Int64) : Met l yX6_size wsX6_size ({ frames := 0, cells := 0, slots := 0, locals := 0 }) (va_Pc [.long v] (fun _ => True)) (vp_Sl (fun r => r = labs v)) 0 0 (fun _ => False) := by
  refine Met.ofW (cc := cX6_size) (maxL := 2) (ret := (some .long)) (by decide) rfl ?_
  intro p e s m args below meth c s₁ B hml hv
  obtain ⟨rfl, -⟩ := hv
  have hx := B.exec
  have hb := B.bytes
  have hr := B.returns
  have hts := atoms_spec (ws := wsX6_size) B.pre
  have hown : s.vm.findClass RX6 = some m.cls := findClass_of_methodNamed B.named
  have hlocks := B.notSynchronized
  have hl := lv_entry ([.long v]) (n := 2) (Nat.le_of_ble_eq_true rfl)
  rw [lg_entry_eq]
  generalize (lg_sl ([.long v]) ++ List.replicate (2 - (lg_sl ([.long v])).length) Slot.unset).toArray = ls at hl ⊢
  have hl : lv_has ls 2 [(0, .long v)] := hl
  refine lv_lload_n hx hb dX6_size_0 rfl (lv_at hl 0 rfl) ?_
  refine lv_lconst (v := 0) hx hb dX6_size_1 (by decide) ?_
  refine rl_ifge (tgt := 11) hx hb dX6_size_2 dX6_size_3 (by decide) (fun h2 => ?_) (fun h2 => ?_)
  · refine lv_lload_n hx hb dX6_size_11 rfl (lv_at hl 0 rfl) ?_
    exact W.lret hx hb hr (fun t ht hW => ⟨_, rfl, by first | exact labs_neg h2 | exact labs_pos h2, ht⟩) (fun _ h => absurd h List.not_mem_nil) dX6_size_12
  · refine lv_lload_n hx hb dX6_size_6 rfl (lv_at hl 0 rfl) ?_
    refine lv_lneg hx hb dX6_size_7 ?_
    refine lv_goto (tgt := 12) hx hb dX6_size_8 (by decide) ?_
    exact W.lret hx hb hr (fun t ht hW => ⟨_, rfl, by first | exact labs_neg h2 | exact labs_pos h2, ht⟩) (fun _ h => absurd h List.not_mem_nil) dX6_size_12

set_option maxHeartbeats 4000000 in
set_option maxRecDepth 100000 in
theorem c_X6_compare (l : Launch) (a b c1 d : Int64) : Met l yX6_compare wsX6_compare ({ frames := 0, cells := 0, slots := 0, locals := 0 }) (va_Pc [.long a, .long b, .long c1, .long d] (fun _ => True)) (vp_Sl (fun r => r = a * d - c1 * b)) 0 0 (fun _ => False) := by
  refine Met.ofW (cc := cX6_compare) (maxL := 8) (ret := (some .long)) (by decide) rfl ?_
  intro p e s m args below meth c s₁ B hml hv
  obtain ⟨rfl, -⟩ := hv
  have hx := B.exec
  have hb := B.bytes
  have hr := B.returns
  have hts := atoms_spec (ws := wsX6_compare) B.pre
  have hown : s.vm.findClass RX6 = some m.cls := findClass_of_methodNamed B.named
  have hlocks := B.notSynchronized
  have hl := lv_entry ([.long a, .long b, .long c1, .long d]) (n := 8) (Nat.le_of_ble_eq_true rfl)
  rw [lg_entry_eq]
  generalize (lg_sl ([.long a, .long b, .long c1, .long d]) ++ List.replicate (8 - (lg_sl ([.long a, .long b, .long c1, .long d])).length) Slot.unset).toArray = ls at hl ⊢
  have hl : lv_has ls 8 [(0, .long a), (2, .long b), (4, .long c1), (6, .long d)] := hl
  refine lv_lload_n hx hb dX6_compare_0 rfl (lv_at hl 0 rfl) ?_
  refine lv_lload hx hb dX6_compare_1 (lv_at hl 3 rfl) ?_
  refine lv_lmul hx hb dX6_compare_3 ?_
  refine lv_lload hx hb dX6_compare_4 (lv_at hl 2 rfl) ?_
  refine lv_lload_n hx hb dX6_compare_6 rfl (lv_at hl 1 rfl) ?_
  refine lv_lmul hx hb dX6_compare_7 ?_
  refine lv_lsub hx hb dX6_compare_8 ?_
  exact W.lret hx hb hr (fun t ht hW => ⟨_, rfl, rfl, ht⟩) (fun _ h => absurd h List.not_mem_nil) dX6_compare_9
