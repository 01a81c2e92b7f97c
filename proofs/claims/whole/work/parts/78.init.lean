set_option maxHeartbeats 4000000 in
set_option maxRecDepth 100000 in
theorem c_X2_init (l : Launch) (dC : Nat → ClassId) (dI : Nat → Nat → Nat) (cI cJ : ClassId) (sz : Nat) (h0 : Nat) : Met l yX2_init wsX2_init ({ frames := 1, cells := 1, slots := 28, locals := 20 }) (va_Pc [.ref h0] (MU (dC, dI) (tyK cI cJ) ([(h0, .inr (2, [.null, .int 0]))]) sz)) (va_Qv (fun (_ : Nat) => True) (MB (dC, dI) ([(h0, .inr (2, [.null, .int 0]))]) sz (fun (u : Nat) => [(h0, .inr (2, [.ref u, .int 0])), (u, .inl (cI, 28, .inl (fun _ => 0)))])) (va_A ([(h0, .inr (2, [.null, .int 0]))]) sz)) 1 28 (va_A ([(h0, .inr (2, [.null, .int 0]))]) sz) := by
  refine Met.ofW (cc := cX2_init) (maxL := 1) (ret := none) (by decide) rfl ?_
  intro p e s m args below meth c s₁ B hml hv
  obtain ⟨rfl, hsz, hP, hK, hN, hD0⟩ := hv
  have hx := B.exec
  have hb := B.bytes
  have hr := B.returns
  have hts := atoms_spec (ws := wsX2_init) B.pre
  have hown : s.vm.findClass RX2 = some m.cls := findClass_of_methodNamed B.named
  have hlocks := B.notSynchronized
  have hin : meth.name = "<init>" := (name_of_methodNamed B.named B.method).1
  subst hsz
  have hD := hD0.self (sz := s.heap.size)
  generalize hAe : va_A ([(h0, .inr (2, [.null, .int 0]))]) s.heap.size = A at hD ⊢
  have hA : ∀ q : Nat, s.heap.size ≤ q → A q := fun q h => by rw [← hAe]; exact Or.inr h
  have hS : va_S A s.heap s.heap [] := va_S.rf
  have hP : va_P (dC, dI) vwCl [(h0, .inr (2, [.null, .int 0]))] s.heap := hP
  have hD : va_D A [(h0, .inr (2, [.null, .int 0]))] := hD
  obtain ⟨H, hH⟩ : ∃ H : Heap, H = s.heap := ⟨_, rfl⟩
  obtain ⟨locs, hlc⟩ : ∃ locs : List Loc, locs = [] := ⟨_, rfl⟩
  have hl := lv_entry ([.ref h0]) (n := 1) (Nat.le_of_ble_eq_true rfl)
  rw [lg_entry_eq]
  generalize (lg_sl ([.ref h0]) ++ List.replicate (1 - (lg_sl ([.ref h0])).length) Slot.unset).toArray = ls at hl ⊢
  have hl : lv_has ls 1 [(0, .ref h0)] := hl
  refine mu_in hH hlc (fun hS hP hD => ?_) hS hP hD
  clear hH hlc
  refine lv_aload_n hx hb dX2_init_0 rfl (lv_at hl 0 rfl) ?_
  refine W.objInit hx hb hown (hts (.methodLink RX2 5 objectInit) (by decide +kernel)) (hts (.instanceMethod objectInit) (by decide +kernel)) (hts (.code objectInit ⟨#[0xb1]⟩ 1 none) (by decide +kernel)) rfl (by rw [hml]; exact hl.1) rfl dX2_init_1 (Nat.le_of_ble_eq_true rfl) (Nat.le_of_ble_eq_true rfl) ?_
  refine W.eq (g2 := F0 m 4 ls []) rfl ?_
  refine lv_aload_n hx hb dX2_init_4 rfl (lv_at hl 0 rfl) ?_
  refine lv_bipush (v := 28) hx hb dX2_init_5 (by decide) ?_
  refine nw_i hx hb (hts (.arrayClass .int) (by decide +kernel)) hK hP hD hS hA (N := 28) (by decide) (by decide) (by decide) (Nat.le_of_ble_eq_true rfl) (Nat.le_of_ble_eq_true rfl) dX2_init_7 (fun q7 H hP hD hS => ?_)
  have hP : va_P (dC, dI) vwCl [(h0, .inr (2, [.null, .int 0])), (q7, .inl (cI, 28, .inl (fun _ => 0)))] H := hP
  have hD : va_D A [(h0, .inr (2, [.null, .int 0])), (q7, .inl (cI, 28, .inl (fun _ => 0)))] := hD
  refine W.widen (k := 1) (n := 28) (by omega) (by omega) ?_
  refine va_putF (D := (dC, dI)) (ci := 2) (v := .ref q7) (ty := .array .int) (C := RX2) (T := TX2) (N := 2) hx hb hts (by decide +kernel) tyX2 tyX2_ok nmX2 hown hK hP hD hS 0 rfl rfl 0 (by decide) (hts (.fieldLink RX2 11 "AchromatDesk$GlassText" "codes" "[I") (by decide +kernel)) (fun _ h9 => h9) rfl hin rfl (by decide +kernel) rfl rfl (Nat.le_of_ble_eq_true rfl) dX2_init_9 (fun H locs hP hD hS => ?_)
  have hP : va_P (dC, dI) vwCl [(h0, .inr (2, [.ref q7, .int 0])), (q7, .inl (cI, 28, .inl (fun _ => 0)))] H := hP
  have hD : va_D A [(h0, .inr (2, [.ref q7, .int 0])), (q7, .inl (cI, 28, .inl (fun _ => 0)))] := hD
  exact W.vret hx hb hr (fun t ht hW => ⟨⟨q7, rfl, trivial, by rw [ht]; exact hP, by rw [hAe]; exact hD⟩, hS.F ht⟩) hS.2.2 dX2_init_12

set_option maxHeartbeats 4000000 in
set_option maxRecDepth 100000 in
theorem c_X0_init (l : Launch) (dC : Nat → ClassId) (dI : Nat → Nat → Nat) (cI cJ : ClassId) (sz : Nat) (h0 : Nat) : Met l yX0_init wsX0_init ({ frames := 1, cells := 4, slots := 80, locals := 20 }) (va_Pc [.ref h0] (MU (dC, dI) (tyK cI cJ) ([(h0, .inr (0, [.null, .null, .null, .null, .int 0]))]) sz)) (va_Qv (fun (_ : Nat × Nat × Nat × Nat) => True) (MB (dC, dI) ([(h0, .inr (0, [.null, .null, .null, .null, .int 0]))]) sz (fun (u : Nat × Nat × Nat × Nat) => [(h0, .inr (0, [.ref u.1, .ref u.2.1, .ref u.2.2.1, .ref u.2.2.2, .int 0])), (u.1, .inl (cJ, 20, .inr (.inl (fun _ => 0)))), (u.2.1, .inl (cI, 20, .inl (fun _ => 0))), (u.2.2.1, .inl (cI, 20, .inl (fun _ => 0))), (u.2.2.2, .inl (cI, 20, .inl (fun _ => 0)))])) (va_A ([(h0, .inr (0, [.null, .null, .null, .null, .int 0]))]) sz)) 4 80 (va_A ([(h0, .inr (0, [.null, .null, .null, .null, .int 0]))]) sz) := by
  refine Met.ofW (cc := cX0_init) (maxL := 1) (ret := none) (by decide) rfl ?_
  intro p e s m args below meth c s₁ B hml hv
  obtain ⟨rfl, hsz, hP, hK, hN, hD0⟩ := hv
  have hx := B.exec
  have hb := B.bytes
  have hr := B.returns
  have hts := atoms_spec (ws := wsX0_init) B.pre
  have hown : s.vm.findClass RX0 = some m.cls := findClass_of_methodNamed B.named
  have hlocks := B.notSynchronized
  have hin : meth.name = "<init>" := (name_of_methodNamed B.named B.method).1
  subst hsz
  have hD := hD0.self (sz := s.heap.size)
  generalize hAe : va_A ([(h0, .inr (0, [.null, .null, .null, .null, .int 0]))]) s.heap.size = A at hD ⊢
  have hA : ∀ q : Nat, s.heap.size ≤ q → A q := fun q h => by rw [← hAe]; exact Or.inr h
  have hS : va_S A s.heap s.heap [] := va_S.rf
  have hP : va_P (dC, dI) vwCl [(h0, .inr (0, [.null, .null, .null, .null, .int 0]))] s.heap := hP
  have hD : va_D A [(h0, .inr (0, [.null, .null, .null, .null, .int 0]))] := hD
  obtain ⟨H, hH⟩ : ∃ H : Heap, H = s.heap := ⟨_, rfl⟩
  obtain ⟨locs, hlc⟩ : ∃ locs : List Loc, locs = [] := ⟨_, rfl⟩
  have hl := lv_entry ([.ref h0]) (n := 1) (Nat.le_of_ble_eq_true rfl)
  rw [lg_entry_eq]
  generalize (lg_sl ([.ref h0]) ++ List.replicate (1 - (lg_sl ([.ref h0])).length) Slot.unset).toArray = ls at hl ⊢
  have hl : lv_has ls 1 [(0, .ref h0)] := hl
  refine mu_in hH hlc (fun hS hP hD => ?_) hS hP hD
  clear hH hlc
  refine lv_aload_n hx hb dX0_init_0 rfl (lv_at hl 0 rfl) ?_
  refine W.objInit hx hb hown (hts (.methodLink RX0 3 objectInit) (by decide +kernel)) (hts (.instanceMethod objectInit) (by decide +kernel)) (hts (.code objectInit ⟨#[0xb1]⟩ 1 none) (by decide +kernel)) rfl (by rw [hml]; exact hl.1) rfl dX0_init_1 (Nat.le_of_ble_eq_true rfl) (Nat.le_of_ble_eq_true rfl) ?_
  refine W.eq (g2 := F0 m 4 ls []) rfl ?_
  refine lv_aload_n hx hb dX0_init_4 rfl (lv_at hl 0 rfl) ?_
  refine lv_bipush (v := 20) hx hb dX0_init_5 (by decide) ?_
  refine nw_l hx hb (hts (.arrayClass .long) (by decide +kernel)) hK hP hD hS hA (N := 20) (by decide) (by decide) (by decide) (Nat.le_of_ble_eq_true rfl) (Nat.le_of_ble_eq_true rfl) dX0_init_7 (fun q7 H hP hD hS => ?_)
  have hP : va_P (dC, dI) vwCl [(h0, .inr (0, [.null, .null, .null, .null, .int 0])), (q7, .inl (cJ, 20, .inr (.inl (fun _ => 0))))] H := hP
  have hD : va_D A [(h0, .inr (0, [.null, .null, .null, .null, .int 0])), (q7, .inl (cJ, 20, .inr (.inl (fun _ => 0))))] := hD
  refine W.widen (k := 1) (n := 20) (by omega) (by omega) ?_
  refine va_putF (D := (dC, dI)) (ci := 0) (v := .ref q7) (ty := .array .long) (C := RX0) (T := TX0) (N := 5) hx hb hts (by decide +kernel) tyX0 tyX0_ok nmX0 hown hK hP hD hS 0 rfl rfl 0 (by decide) (hts (.fieldLink RX0 9 "AchromatDesk$Catalogue" "nameKeys" "[J") (by decide +kernel)) (fun _ h9 => h9) rfl hin rfl (by decide +kernel) rfl rfl (Nat.le_of_ble_eq_true rfl) dX0_init_9 (fun H locs hP hD hS => ?_)
  have hP : va_P (dC, dI) vwCl [(h0, .inr (0, [.ref q7, .null, .null, .null, .int 0])), (q7, .inl (cJ, 20, .inr (.inl (fun _ => 0))))] H := hP
  have hD : va_D A [(h0, .inr (0, [.ref q7, .null, .null, .null, .int 0])), (q7, .inl (cJ, 20, .inr (.inl (fun _ => 0))))] := hD
  refine lv_aload_n hx hb dX0_init_12 rfl (lv_at hl 0 rfl) ?_
  refine lv_bipush (v := 20) hx hb dX0_init_13 (by decide) ?_
  refine nw_i hx hb (hts (.arrayClass .int) (by decide +kernel)) hK hP hD hS hA (N := 20) (by decide) (by decide) (by decide) (Nat.le_of_ble_eq_true rfl) (Nat.le_of_ble_eq_true rfl) dX0_init_15 (fun q15 H hP hD hS => ?_)
  have hP : va_P (dC, dI) vwCl [(h0, .inr (0, [.ref q7, .null, .null, .null, .int 0])), (q7, .inl (cJ, 20, .inr (.inl (fun _ => 0)))), (q15, .inl (cI, 20, .inl (fun _ => 0)))] H := hP
  have hD : va_D A [(h0, .inr (0, [.ref q7, .null, .null, .null, .int 0])), (q7, .inl (cJ, 20, .inr (.inl (fun _ => 0)))), (q15, .inl (cI, 20, .inl (fun _ => 0)))] := hD
  refine W.widen (k := 2) (n := 40) (by omega) (by omega) ?_
  refine va_putF (D := (dC, dI)) (ci := 0) (v := .ref q15) (ty := .array .int) (C := RX0) (T := TX0) (N := 5) hx hb hts (by decide +kernel) tyX0 tyX0_ok nmX0 hown hK hP hD hS 0 rfl rfl 1 (by decide) (hts (.fieldLink RX0 15 "AchromatDesk$Catalogue" "indicesF" "[I") (by decide +kernel)) (fun _ h9 => h9) rfl hin rfl (by decide +kernel) rfl rfl (Nat.le_of_ble_eq_true rfl) dX0_init_17 (fun H locs hP hD hS => ?_)
  have hP : va_P (dC, dI) vwCl [(h0, .inr (0, [.ref q7, .ref q15, .null, .null, .int 0])), (q7, .inl (cJ, 20, .inr (.inl (fun _ => 0)))), (q15, .inl (cI, 20, .inl (fun _ => 0)))] H := hP
  have hD : va_D A [(h0, .inr (0, [.ref q7, .ref q15, .null, .null, .int 0])), (q7, .inl (cJ, 20, .inr (.inl (fun _ => 0)))), (q15, .inl (cI, 20, .inl (fun _ => 0)))] := hD
  refine lv_aload_n hx hb dX0_init_20 rfl (lv_at hl 0 rfl) ?_
  refine lv_bipush (v := 20) hx hb dX0_init_21 (by decide) ?_
  refine nw_i hx hb (hts (.arrayClass .int) (by decide +kernel)) hK hP hD hS hA (N := 20) (by decide) (by decide) (by decide) (Nat.le_of_ble_eq_true rfl) (Nat.le_of_ble_eq_true rfl) dX0_init_23 (fun q23 H hP hD hS => ?_)
  have hP : va_P (dC, dI) vwCl [(h0, .inr (0, [.ref q7, .ref q15, .null, .null, .int 0])), (q7, .inl (cJ, 20, .inr (.inl (fun _ => 0)))), (q15, .inl (cI, 20, .inl (fun _ => 0))), (q23, .inl (cI, 20, .inl (fun _ => 0)))] H := hP
  have hD : va_D A [(h0, .inr (0, [.ref q7, .ref q15, .null, .null, .int 0])), (q7, .inl (cJ, 20, .inr (.inl (fun _ => 0)))), (q15, .inl (cI, 20, .inl (fun _ => 0))), (q23, .inl (cI, 20, .inl (fun _ => 0)))] := hD
  refine W.widen (k := 3) (n := 60) (by omega) (by omega) ?_
  refine va_putF (D := (dC, dI)) (ci := 0) (v := .ref q23) (ty := .array .int) (C := RX0) (T := TX0) (N := 5) hx hb hts (by decide +kernel) tyX0 tyX0_ok nmX0 hown hK hP hD hS 0 rfl rfl 2 (by decide) (hts (.fieldLink RX0 19 "AchromatDesk$Catalogue" "indicesD" "[I") (by decide +kernel)) (fun _ h9 => h9) rfl hin rfl (by decide +kernel) rfl rfl (Nat.le_of_ble_eq_true rfl) dX0_init_25 (fun H locs hP hD hS => ?_)
  have hP : va_P (dC, dI) vwCl [(h0, .inr (0, [.ref q7, .ref q15, .ref q23, .null, .int 0])), (q7, .inl (cJ, 20, .inr (.inl (fun _ => 0)))), (q15, .inl (cI, 20, .inl (fun _ => 0))), (q23, .inl (cI, 20, .inl (fun _ => 0)))] H := hP
  have hD : va_D A [(h0, .inr (0, [.ref q7, .ref q15, .ref q23, .null, .int 0])), (q7, .inl (cJ, 20, .inr (.inl (fun _ => 0)))), (q15, .inl (cI, 20, .inl (fun _ => 0))), (q23, .inl (cI, 20, .inl (fun _ => 0)))] := hD
  refine lv_aload_n hx hb dX0_init_28 rfl (lv_at hl 0 rfl) ?_
  refine lv_bipush (v := 20) hx hb dX0_init_29 (by decide) ?_
  refine nw_i hx hb (hts (.arrayClass .int) (by decide +kernel)) hK hP hD hS hA (N := 20) (by decide) (by decide) (by decide) (Nat.le_of_ble_eq_true rfl) (Nat.le_of_ble_eq_true rfl) dX0_init_31 (fun q31 H hP hD hS => ?_)
  have hP : va_P (dC, dI) vwCl [(h0, .inr (0, [.ref q7, .ref q15, .ref q23, .null, .int 0])), (q7, .inl (cJ, 20, .inr (.inl (fun _ => 0)))), (q15, .inl (cI, 20, .inl (fun _ => 0))), (q23, .inl (cI, 20, .inl (fun _ => 0))), (q31, .inl (cI, 20, .inl (fun _ => 0)))] H := hP
  have hD : va_D A [(h0, .inr (0, [.ref q7, .ref q15, .ref q23, .null, .int 0])), (q7, .inl (cJ, 20, .inr (.inl (fun _ => 0)))), (q15, .inl (cI, 20, .inl (fun _ => 0))), (q23, .inl (cI, 20, .inl (fun _ => 0))), (q31, .inl (cI, 20, .inl (fun _ => 0)))] := hD
  refine W.widen (k := 4) (n := 80) (by omega) (by omega) ?_
  refine va_putF (D := (dC, dI)) (ci := 0) (v := .ref q31) (ty := .array .int) (C := RX0) (T := TX0) (N := 5) hx hb hts (by decide +kernel) tyX0 tyX0_ok nmX0 hown hK hP hD hS 0 rfl rfl 3 (by decide) (hts (.fieldLink RX0 22 "AchromatDesk$Catalogue" "indicesC" "[I") (by decide +kernel)) (fun _ h9 => h9) rfl hin rfl (by decide +kernel) rfl rfl (Nat.le_of_ble_eq_true rfl) dX0_init_33 (fun H locs hP hD hS => ?_)
  have hP : va_P (dC, dI) vwCl [(h0, .inr (0, [.ref q7, .ref q15, .ref q23, .ref q31, .int 0])), (q7, .inl (cJ, 20, .inr (.inl (fun _ => 0)))), (q15, .inl (cI, 20, .inl (fun _ => 0))), (q23, .inl (cI, 20, .inl (fun _ => 0))), (q31, .inl (cI, 20, .inl (fun _ => 0)))] H := hP
  have hD : va_D A [(h0, .inr (0, [.ref q7, .ref q15, .ref q23, .ref q31, .int 0])), (q7, .inl (cJ, 20, .inr (.inl (fun _ => 0)))), (q15, .inl (cI, 20, .inl (fun _ => 0))), (q23, .inl (cI, 20, .inl (fun _ => 0))), (q31, .inl (cI, 20, .inl (fun _ => 0)))] := hD
  exact W.vret hx hb hr (fun t ht hW => ⟨⟨(q7, q15, q23, q31), rfl, trivial, by rw [ht]; exact hP, by rw [hAe]; exact hD⟩, hS.F ht⟩) hS.2.2 dX0_init_36

set_option maxHeartbeats 4000000 in
set_option maxRecDepth 100000 in
theorem c_X1_init (l : Launch) (dC : Nat → ClassId) (dI : Nat → Nat → Nat) (cI cJ : ClassId) (sz : Nat) (h0 : Nat) : Met l yX1_init wsX1_init ({ frames := 1, cells := 5, slots := 950, locals := 20 }) (va_Pc [.ref h0] (MU (dC, dI) (tyK cI cJ) ([(h0, .inr (1, [.null, .null, .null, .null, .null, .int 0]))]) sz)) (va_Qv (fun (_ : Nat × Nat × Nat × Nat × Nat) => True) (MB (dC, dI) ([(h0, .inr (1, [.null, .null, .null, .null, .null, .int 0]))]) sz (fun (u : Nat × Nat × Nat × Nat × Nat) => [(h0, .inr (1, [.ref u.1, .ref u.2.1, .ref u.2.2.1, .ref u.2.2.2.1, .ref u.2.2.2.2, .int 0])), (u.1, .inl (cI, 190, .inl (fun _ => 0))), (u.2.1, .inl (cJ, 190, .inr (.inl (fun _ => 0)))), (u.2.2.1, .inl (cJ, 190, .inr (.inl (fun _ => 0)))), (u.2.2.2.1, .inl (cJ, 190, .inr (.inl (fun _ => 0)))), (u.2.2.2.2, .inl (cI, 190, .inl (fun _ => 0)))])) (va_A ([(h0, .inr (1, [.null, .null, .null, .null, .null, .int 0]))]) sz)) 5 950 (va_A ([(h0, .inr (1, [.null, .null, .null, .null, .null, .int 0]))]) sz) := by
  refine Met.ofW (cc := cX1_init) (maxL := 1) (ret := none) (by decide) rfl ?_
  intro p e s m args below meth c s₁ B hml hv
  obtain ⟨rfl, hsz, hP, hK, hN, hD0⟩ := hv
  have hx := B.exec
  have hb := B.bytes
  have hr := B.returns
  have hts := atoms_spec (ws := wsX1_init) B.pre
  have hown : s.vm.findClass RX1 = some m.cls := findClass_of_methodNamed B.named
  have hlocks := B.notSynchronized
  have hin : meth.name = "<init>" := (name_of_methodNamed B.named B.method).1
  subst hsz
  have hD := hD0.self (sz := s.heap.size)
  generalize hAe : va_A ([(h0, .inr (1, [.null, .null, .null, .null, .null, .int 0]))]) s.heap.size = A at hD ⊢
  have hA : ∀ q : Nat, s.heap.size ≤ q → A q := fun q h => by rw [← hAe]; exact Or.inr h
  have hS : va_S A s.heap s.heap [] := va_S.rf
  have hP : va_P (dC, dI) vwCl [(h0, .inr (1, [.null, .null, .null, .null, .null, .int 0]))] s.heap := hP
  have hD : va_D A [(h0, .inr (1, [.null, .null, .null, .null, .null, .int 0]))] := hD
  obtain ⟨H, hH⟩ : ∃ H : Heap, H = s.heap := ⟨_, rfl⟩
  obtain ⟨locs, hlc⟩ : ∃ locs : List Loc, locs = [] := ⟨_, rfl⟩
  have hl := lv_entry ([.ref h0]) (n := 1) (Nat.le_of_ble_eq_true rfl)
  rw [lg_entry_eq]
  generalize (lg_sl ([.ref h0]) ++ List.replicate (1 - (lg_sl ([.ref h0])).length) Slot.unset).toArray = ls at hl ⊢
  have hl : lv_has ls 1 [(0, .ref h0)] := hl
  refine mu_in hH hlc (fun hS hP hD => ?_) hS hP hD
  clear hH hlc
  refine lv_aload_n hx hb dX1_init_0 rfl (lv_at hl 0 rfl) ?_
  refine W.objInit hx hb hown (hts (.methodLink RX1 3 objectInit) (by decide +kernel)) (hts (.instanceMethod objectInit) (by decide +kernel)) (hts (.code objectInit ⟨#[0xb1]⟩ 1 none) (by decide +kernel)) rfl (by rw [hml]; exact hl.1) rfl dX1_init_1 (Nat.le_of_ble_eq_true rfl) (Nat.le_of_ble_eq_true rfl) ?_
  refine W.eq (g2 := F0 m 4 ls []) rfl ?_
  refine lv_aload_n hx hb dX1_init_4 rfl (lv_at hl 0 rfl) ?_
  refine lv_sipush (v := 190) hx hb dX1_init_5 (by decide) ?_
  refine nw_i hx hb (hts (.arrayClass .int) (by decide +kernel)) hK hP hD hS hA (N := 190) (by decide) (by decide) (by decide) (Nat.le_of_ble_eq_true rfl) (Nat.le_of_ble_eq_true rfl) dX1_init_8 (fun q8 H hP hD hS => ?_)
  have hP : va_P (dC, dI) vwCl [(h0, .inr (1, [.null, .null, .null, .null, .null, .int 0])), (q8, .inl (cI, 190, .inl (fun _ => 0)))] H := hP
  have hD : va_D A [(h0, .inr (1, [.null, .null, .null, .null, .null, .int 0])), (q8, .inl (cI, 190, .inl (fun _ => 0)))] := hD
  refine W.widen (k := 1) (n := 190) (by omega) (by omega) ?_
  refine va_putF (D := (dC, dI)) (ci := 1) (v := .ref q8) (ty := .array .int) (C := RX1) (T := TX1) (N := 6) hx hb hts (by decide +kernel) tyX1 tyX1_ok nmX1 hown hK hP hD hS 0 rfl rfl 0 (by decide) (hts (.fieldLink RX1 9 "AchromatDesk$DoubletRanking" "codes" "[I") (by decide +kernel)) (fun _ h9 => h9) rfl hin rfl (by decide +kernel) rfl rfl (Nat.le_of_ble_eq_true rfl) dX1_init_10 (fun H locs hP hD hS => ?_)
  have hP : va_P (dC, dI) vwCl [(h0, .inr (1, [.ref q8, .null, .null, .null, .null, .int 0])), (q8, .inl (cI, 190, .inl (fun _ => 0)))] H := hP
  have hD : va_D A [(h0, .inr (1, [.ref q8, .null, .null, .null, .null, .int 0])), (q8, .inl (cI, 190, .inl (fun _ => 0)))] := hD
  refine lv_aload_n hx hb dX1_init_13 rfl (lv_at hl 0 rfl) ?_
  refine lv_sipush (v := 190) hx hb dX1_init_14 (by decide) ?_
  refine nw_l hx hb (hts (.arrayClass .long) (by decide +kernel)) hK hP hD hS hA (N := 190) (by decide) (by decide) (by decide) (Nat.le_of_ble_eq_true rfl) (Nat.le_of_ble_eq_true rfl) dX1_init_17 (fun q17 H hP hD hS => ?_)
  have hP : va_P (dC, dI) vwCl [(h0, .inr (1, [.ref q8, .null, .null, .null, .null, .int 0])), (q8, .inl (cI, 190, .inl (fun _ => 0))), (q17, .inl (cJ, 190, .inr (.inl (fun _ => 0))))] H := hP
  have hD : va_D A [(h0, .inr (1, [.ref q8, .null, .null, .null, .null, .int 0])), (q8, .inl (cI, 190, .inl (fun _ => 0))), (q17, .inl (cJ, 190, .inr (.inl (fun _ => 0))))] := hD
  refine W.widen (k := 2) (n := 380) (by omega) (by omega) ?_
  refine va_putF (D := (dC, dI)) (ci := 1) (v := .ref q17) (ty := .array .long) (C := RX1) (T := TX1) (N := 6) hx hb hts (by decide +kernel) tyX1 tyX1_ok nmX1 hown hK hP hD hS 0 rfl rfl 1 (by decide) (hts (.fieldLink RX1 15 "AchromatDesk$DoubletRanking" "divisors" "[J") (by decide +kernel)) (fun _ h9 => h9) rfl hin rfl (by decide +kernel) rfl rfl (Nat.le_of_ble_eq_true rfl) dX1_init_19 (fun H locs hP hD hS => ?_)
  have hP : va_P (dC, dI) vwCl [(h0, .inr (1, [.ref q8, .ref q17, .null, .null, .null, .int 0])), (q8, .inl (cI, 190, .inl (fun _ => 0))), (q17, .inl (cJ, 190, .inr (.inl (fun _ => 0))))] H := hP
  have hD : va_D A [(h0, .inr (1, [.ref q8, .ref q17, .null, .null, .null, .int 0])), (q8, .inl (cI, 190, .inl (fun _ => 0))), (q17, .inl (cJ, 190, .inr (.inl (fun _ => 0))))] := hD
  refine lv_aload_n hx hb dX1_init_22 rfl (lv_at hl 0 rfl) ?_
  refine lv_sipush (v := 190) hx hb dX1_init_23 (by decide) ?_
  refine nw_l hx hb (hts (.arrayClass .long) (by decide +kernel)) hK hP hD hS hA (N := 190) (by decide) (by decide) (by decide) (Nat.le_of_ble_eq_true rfl) (Nat.le_of_ble_eq_true rfl) dX1_init_26 (fun q26 H hP hD hS => ?_)
  have hP : va_P (dC, dI) vwCl [(h0, .inr (1, [.ref q8, .ref q17, .null, .null, .null, .int 0])), (q8, .inl (cI, 190, .inl (fun _ => 0))), (q17, .inl (cJ, 190, .inr (.inl (fun _ => 0)))), (q26, .inl (cJ, 190, .inr (.inl (fun _ => 0))))] H := hP
  have hD : va_D A [(h0, .inr (1, [.ref q8, .ref q17, .null, .null, .null, .int 0])), (q8, .inl (cI, 190, .inl (fun _ => 0))), (q17, .inl (cJ, 190, .inr (.inl (fun _ => 0)))), (q26, .inl (cJ, 190, .inr (.inl (fun _ => 0))))] := hD
  refine W.widen (k := 3) (n := 570) (by omega) (by omega) ?_
  refine va_putF (D := (dC, dI)) (ci := 1) (v := .ref q26) (ty := .array .long) (C := RX1) (T := TX1) (N := 6) hx hb hts (by decide +kernel) tyX1 tyX1_ok nmX1 hown hK hP hD hS 0 rfl rfl 2 (by decide) (hts (.fieldLink RX1 19 "AchromatDesk$DoubletRanking" "spectra" "[J") (by decide +kernel)) (fun _ h9 => h9) rfl hin rfl (by decide +kernel) rfl rfl (Nat.le_of_ble_eq_true rfl) dX1_init_28 (fun H locs hP hD hS => ?_)
  have hP : va_P (dC, dI) vwCl [(h0, .inr (1, [.ref q8, .ref q17, .ref q26, .null, .null, .int 0])), (q8, .inl (cI, 190, .inl (fun _ => 0))), (q17, .inl (cJ, 190, .inr (.inl (fun _ => 0)))), (q26, .inl (cJ, 190, .inr (.inl (fun _ => 0))))] H := hP
  have hD : va_D A [(h0, .inr (1, [.ref q8, .ref q17, .ref q26, .null, .null, .int 0])), (q8, .inl (cI, 190, .inl (fun _ => 0))), (q17, .inl (cJ, 190, .inr (.inl (fun _ => 0)))), (q26, .inl (cJ, 190, .inr (.inl (fun _ => 0))))] := hD
  refine lv_aload_n hx hb dX1_init_31 rfl (lv_at hl 0 rfl) ?_
  refine lv_sipush (v := 190) hx hb dX1_init_32 (by decide) ?_
  refine nw_l hx hb (hts (.arrayClass .long) (by decide +kernel)) hK hP hD hS hA (N := 190) (by decide) (by decide) (by decide) (Nat.le_of_ble_eq_true rfl) (Nat.le_of_ble_eq_true rfl) dX1_init_35 (fun q35 H hP hD hS => ?_)
  have hP : va_P (dC, dI) vwCl [(h0, .inr (1, [.ref q8, .ref q17, .ref q26, .null, .null, .int 0])), (q8, .inl (cI, 190, .inl (fun _ => 0))), (q17, .inl (cJ, 190, .inr (.inl (fun _ => 0)))), (q26, .inl (cJ, 190, .inr (.inl (fun _ => 0)))), (q35, .inl (cJ, 190, .inr (.inl (fun _ => 0))))] H := hP
  have hD : va_D A [(h0, .inr (1, [.ref q8, .ref q17, .ref q26, .null, .null, .int 0])), (q8, .inl (cI, 190, .inl (fun _ => 0))), (q17, .inl (cJ, 190, .inr (.inl (fun _ => 0)))), (q26, .inl (cJ, 190, .inr (.inl (fun _ => 0)))), (q35, .inl (cJ, 190, .inr (.inl (fun _ => 0))))] := hD
  refine W.widen (k := 4) (n := 760) (by omega) (by omega) ?_
  refine va_putF (D := (dC, dI)) (ci := 1) (v := .ref q35) (ty := .array .long) (C := RX1) (T := TX1) (N := 6) hx hb hts (by decide +kernel) tyX1 tyX1_ok nmX1 hown hK hP hD hS 0 rfl rfl 3 (by decide) (hts (.fieldLink RX1 22 "AchromatDesk$DoubletRanking" "strains" "[J") (by decide +kernel)) (fun _ h9 => h9) rfl hin rfl (by decide +kernel) rfl rfl (Nat.le_of_ble_eq_true rfl) dX1_init_37 (fun H locs hP hD hS => ?_)
  have hP : va_P (dC, dI) vwCl [(h0, .inr (1, [.ref q8, .ref q17, .ref q26, .ref q35, .null, .int 0])), (q8, .inl (cI, 190, .inl (fun _ => 0))), (q17, .inl (cJ, 190, .inr (.inl (fun _ => 0)))), (q26, .inl (cJ, 190, .inr (.inl (fun _ => 0)))), (q35, .inl (cJ, 190, .inr (.inl (fun _ => 0))))] H := hP
  have hD : va_D A [(h0, .inr (1, [.ref q8, .ref q17, .ref q26, .ref q35, .null, .int 0])), (q8, .inl (cI, 190, .inl (fun _ => 0))), (q17, .inl (cJ, 190, .inr (.inl (fun _ => 0)))), (q26, .inl (cJ, 190, .inr (.inl (fun _ => 0)))), (q35, .inl (cJ, 190, .inr (.inl (fun _ => 0))))] := hD
  refine lv_aload_n hx hb dX1_init_40 rfl (lv_at hl 0 rfl) ?_
  refine lv_sipush (v := 190) hx hb dX1_init_41 (by decide) ?_
  refine nw_i hx hb (hts (.arrayClass .int) (by decide +kernel)) hK hP hD hS hA (N := 190) (by decide) (by decide) (by decide) (Nat.le_of_ble_eq_true rfl) (Nat.le_of_ble_eq_true rfl) dX1_init_44 (fun q44 H hP hD hS => ?_)
  have hP : va_P (dC, dI) vwCl [(h0, .inr (1, [.ref q8, .ref q17, .ref q26, .ref q35, .null, .int 0])), (q8, .inl (cI, 190, .inl (fun _ => 0))), (q17, .inl (cJ, 190, .inr (.inl (fun _ => 0)))), (q26, .inl (cJ, 190, .inr (.inl (fun _ => 0)))), (q35, .inl (cJ, 190, .inr (.inl (fun _ => 0)))), (q44, .inl (cI, 190, .inl (fun _ => 0)))] H := hP
  have hD : va_D A [(h0, .inr (1, [.ref q8, .ref q17, .ref q26, .ref q35, .null, .int 0])), (q8, .inl (cI, 190, .inl (fun _ => 0))), (q17, .inl (cJ, 190, .inr (.inl (fun _ => 0)))), (q26, .inl (cJ, 190, .inr (.inl (fun _ => 0)))), (q35, .inl (cJ, 190, .inr (.inl (fun _ => 0)))), (q44, .inl (cI, 190, .inl (fun _ => 0)))] := hD
  refine W.widen (k := 5) (n := 950) (by omega) (by omega) ?_
  refine va_putF (D := (dC, dI)) (ci := 1) (v := .ref q44) (ty := .array .int) (C := RX1) (T := TX1) (N := 6) hx hb hts (by decide +kernel) tyX1 tyX1_ok nmX1 hown hK hP hD hS 0 rfl rfl 4 (by decide) (hts (.fieldLink RX1 25 "AchromatDesk$DoubletRanking" "order" "[I") (by decide +kernel)) (fun _ h9 => h9) rfl hin rfl (by decide +kernel) rfl rfl (Nat.le_of_ble_eq_true rfl) dX1_init_46 (fun H locs hP hD hS => ?_)
  have hP : va_P (dC, dI) vwCl [(h0, .inr (1, [.ref q8, .ref q17, .ref q26, .ref q35, .ref q44, .int 0])), (q8, .inl (cI, 190, .inl (fun _ => 0))), (q17, .inl (cJ, 190, .inr (.inl (fun _ => 0)))), (q26, .inl (cJ, 190, .inr (.inl (fun _ => 0)))), (q35, .inl (cJ, 190, .inr (.inl (fun _ => 0)))), (q44, .inl (cI, 190, .inl (fun _ => 0)))] H := hP
  have hD : va_D A [(h0, .inr (1, [.ref q8, .ref q17, .ref q26, .ref q35, .ref q44, .int 0])), (q8, .inl (cI, 190, .inl (fun _ => 0))), (q17, .inl (cJ, 190, .inr (.inl (fun _ => 0)))), (q26, .inl (cJ, 190, .inr (.inl (fun _ => 0)))), (q35, .inl (cJ, 190, .inr (.inl (fun _ => 0)))), (q44, .inl (cI, 190, .inl (fun _ => 0)))] := hD
  exact W.vret hx hb hr (fun t ht hW => ⟨⟨(q8, q17, q26, q35, q44), rfl, trivial, by rw [ht]; exact hP, by rw [hAe]; exact hD⟩, hS.F ht⟩) hS.2.2 dX1_init_49

set_option maxHeartbeats 4000000 in
set_option maxRecDepth 100000 in
theorem c_X3_init (l : Launch) (dC : Nat → ClassId) (dI : Nat → Nat → Nat) (cI cJ : ClassId) (sz : Nat) (h0 : Nat) : Met l yX3_init wsX3_init ({ frames := 1, cells := 2, slots := 16, locals := 20 }) (va_Pc [.ref h0] (MU (dC, dI) (tyK cI cJ) ([(h0, .inr (3, [.null, .null, .int 0]))]) sz)) (va_Qv (fun (_ : Nat × Nat) => True) (MB (dC, dI) ([(h0, .inr (3, [.null, .null, .int 0]))]) sz (fun (u : Nat × Nat) => [(h0, .inr (3, [.ref u.1, .ref u.2, .int 0])), (u.1, .inl (cI, 8, .inl (fun _ => 0))), (u.2, .inl (cI, 8, .inl (fun _ => 0)))])) (va_A ([(h0, .inr (3, [.null, .null, .int 0]))]) sz)) 2 16 (va_A ([(h0, .inr (3, [.null, .null, .int 0]))]) sz) := by
  refine Met.ofW (cc := cX3_init) (maxL := 1) (ret := none) (by decide) rfl ?_
  intro p e s m args below meth c s₁ B hml hv
  obtain ⟨rfl, hsz, hP, hK, hN, hD0⟩ := hv
  have hx := B.exec
  have hb := B.bytes
  have hr := B.returns
  have hts := atoms_spec (ws := wsX3_init) B.pre
  have hown : s.vm.findClass RX3 = some m.cls := findClass_of_methodNamed B.named
  have hlocks := B.notSynchronized
  have hin : meth.name = "<init>" := (name_of_methodNamed B.named B.method).1
  subst hsz
  have hD := hD0.self (sz := s.heap.size)
  generalize hAe : va_A ([(h0, .inr (3, [.null, .null, .int 0]))]) s.heap.size = A at hD ⊢
  have hA : ∀ q : Nat, s.heap.size ≤ q → A q := fun q h => by rw [← hAe]; exact Or.inr h
  have hS : va_S A s.heap s.heap [] := va_S.rf
  have hP : va_P (dC, dI) vwCl [(h0, .inr (3, [.null, .null, .int 0]))] s.heap := hP
  have hD : va_D A [(h0, .inr (3, [.null, .null, .int 0]))] := hD
  obtain ⟨H, hH⟩ : ∃ H : Heap, H = s.heap := ⟨_, rfl⟩
  obtain ⟨locs, hlc⟩ : ∃ locs : List Loc, locs = [] := ⟨_, rfl⟩
  have hl := lv_entry ([.ref h0]) (n := 1) (Nat.le_of_ble_eq_true rfl)
  rw [lg_entry_eq]
  generalize (lg_sl ([.ref h0]) ++ List.replicate (1 - (lg_sl ([.ref h0])).length) Slot.unset).toArray = ls at hl ⊢
  have hl : lv_has ls 1 [(0, .ref h0)] := hl
  refine mu_in hH hlc (fun hS hP hD => ?_) hS hP hD
  clear hH hlc
  refine lv_aload_n hx hb dX3_init_0 rfl (lv_at hl 0 rfl) ?_
  refine W.objInit hx hb hown (hts (.methodLink RX3 3 objectInit) (by decide +kernel)) (hts (.instanceMethod objectInit) (by decide +kernel)) (hts (.code objectInit ⟨#[0xb1]⟩ 1 none) (by decide +kernel)) rfl (by rw [hml]; exact hl.1) rfl dX3_init_1 (Nat.le_of_ble_eq_true rfl) (Nat.le_of_ble_eq_true rfl) ?_
  refine W.eq (g2 := F0 m 4 ls []) rfl ?_
  refine lv_aload_n hx hb dX3_init_4 rfl (lv_at hl 0 rfl) ?_
  refine lv_bipush (v := 8) hx hb dX3_init_5 (by decide) ?_
  refine nw_i hx hb (hts (.arrayClass .int) (by decide +kernel)) hK hP hD hS hA (N := 8) (by decide) (by decide) (by decide) (Nat.le_of_ble_eq_true rfl) (Nat.le_of_ble_eq_true rfl) dX3_init_7 (fun q7 H hP hD hS => ?_)
  have hP : va_P (dC, dI) vwCl [(h0, .inr (3, [.null, .null, .int 0])), (q7, .inl (cI, 8, .inl (fun _ => 0)))] H := hP
  have hD : va_D A [(h0, .inr (3, [.null, .null, .int 0])), (q7, .inl (cI, 8, .inl (fun _ => 0)))] := hD
  refine W.widen (k := 1) (n := 8) (by omega) (by omega) ?_
  refine va_putF (D := (dC, dI)) (ci := 3) (v := .ref q7) (ty := .array .int) (C := RX3) (T := TX3) (N := 3) hx hb hts (by decide +kernel) tyX3 tyX3_ok nmX3 hown hK hP hD hS 0 rfl rfl 0 (by decide) (hts (.fieldLink RX3 9 "AchromatDesk$LensSystem" "glassNumbers" "[I") (by decide +kernel)) (fun _ h9 => h9) rfl hin rfl (by decide +kernel) rfl rfl (Nat.le_of_ble_eq_true rfl) dX3_init_9 (fun H locs hP hD hS => ?_)
  have hP : va_P (dC, dI) vwCl [(h0, .inr (3, [.ref q7, .null, .int 0])), (q7, .inl (cI, 8, .inl (fun _ => 0)))] H := hP
  have hD : va_D A [(h0, .inr (3, [.ref q7, .null, .int 0])), (q7, .inl (cI, 8, .inl (fun _ => 0)))] := hD
  refine lv_aload_n hx hb dX3_init_12 rfl (lv_at hl 0 rfl) ?_
  refine lv_bipush (v := 8) hx hb dX3_init_13 (by decide) ?_
  refine nw_i hx hb (hts (.arrayClass .int) (by decide +kernel)) hK hP hD hS hA (N := 8) (by decide) (by decide) (by decide) (Nat.le_of_ble_eq_true rfl) (Nat.le_of_ble_eq_true rfl) dX3_init_15 (fun q15 H hP hD hS => ?_)
  have hP : va_P (dC, dI) vwCl [(h0, .inr (3, [.ref q7, .null, .int 0])), (q7, .inl (cI, 8, .inl (fun _ => 0))), (q15, .inl (cI, 8, .inl (fun _ => 0)))] H := hP
  have hD : va_D A [(h0, .inr (3, [.ref q7, .null, .int 0])), (q7, .inl (cI, 8, .inl (fun _ => 0))), (q15, .inl (cI, 8, .inl (fun _ => 0)))] := hD
  refine W.widen (k := 2) (n := 16) (by omega) (by omega) ?_
  refine va_putF (D := (dC, dI)) (ci := 3) (v := .ref q15) (ty := .array .int) (C := RX3) (T := TX3) (N := 3) hx hb hts (by decide +kernel) tyX3 tyX3_ok nmX3 hown hK hP hD hS 0 rfl rfl 1 (by decide) (hts (.fieldLink RX3 15 "AchromatDesk$LensSystem" "powers" "[I") (by decide +kernel)) (fun _ h9 => h9) rfl hin rfl (by decide +kernel) rfl rfl (Nat.le_of_ble_eq_true rfl) dX3_init_17 (fun H locs hP hD hS => ?_)
  have hP : va_P (dC, dI) vwCl [(h0, .inr (3, [.ref q7, .ref q15, .int 0])), (q7, .inl (cI, 8, .inl (fun _ => 0))), (q15, .inl (cI, 8, .inl (fun _ => 0)))] H := hP
  have hD : va_D A [(h0, .inr (3, [.ref q7, .ref q15, .int 0])), (q7, .inl (cI, 8, .inl (fun _ => 0))), (q15, .inl (cI, 8, .inl (fun _ => 0)))] := hD
  exact W.vret hx hb hr (fun t ht hW => ⟨⟨(q7, q15), rfl, trivial, by rw [ht]; exact hP, by rw [hAe]; exact hD⟩, hS.F ht⟩) hS.2.2 dX3_init_20

set_option maxHeartbeats 4000000 in
set_option maxRecDepth 100000 in
theorem c_X4_init (l : Launch) (dC : Nat → ClassId) (dI : Nat → Nat → Nat) (cI cJ : ClassId) (sz : Nat) (h0 : Nat) : Met l yX4_init wsX4_init ({ frames := 1, cells := 1, slots := 16, locals := 20 }) (va_Pc [.ref h0] (MU (dC, dI) (tyK cI cJ) ([(h0, .inr (4, [.null, .int 0]))]) sz)) (va_Qv (fun (_ : Nat) => True) (MB (dC, dI) ([(h0, .inr (4, [.null, .int 0]))]) sz (fun (u : Nat) => [(h0, .inr (4, [.ref u, .int 0])), (u, .inl (cI, 16, .inl (fun _ => 0)))])) (va_A ([(h0, .inr (4, [.null, .int 0]))]) sz)) 1 16 (va_A ([(h0, .inr (4, [.null, .int 0]))]) sz) := by
  refine Met.ofW (cc := cX4_init) (maxL := 1) (ret := none) (by decide) rfl ?_
  intro p e s m args below meth c s₁ B hml hv
  obtain ⟨rfl, hsz, hP, hK, hN, hD0⟩ := hv
  have hx := B.exec
  have hb := B.bytes
  have hr := B.returns
  have hts := atoms_spec (ws := wsX4_init) B.pre
  have hown : s.vm.findClass RX4 = some m.cls := findClass_of_methodNamed B.named
  have hlocks := B.notSynchronized
  have hin : meth.name = "<init>" := (name_of_methodNamed B.named B.method).1
  subst hsz
  have hD := hD0.self (sz := s.heap.size)
  generalize hAe : va_A ([(h0, .inr (4, [.null, .int 0]))]) s.heap.size = A at hD ⊢
  have hA : ∀ q : Nat, s.heap.size ≤ q → A q := fun q h => by rw [← hAe]; exact Or.inr h
  have hS : va_S A s.heap s.heap [] := va_S.rf
  have hP : va_P (dC, dI) vwCl [(h0, .inr (4, [.null, .int 0]))] s.heap := hP
  have hD : va_D A [(h0, .inr (4, [.null, .int 0]))] := hD
  obtain ⟨H, hH⟩ : ∃ H : Heap, H = s.heap := ⟨_, rfl⟩
  obtain ⟨locs, hlc⟩ : ∃ locs : List Loc, locs = [] := ⟨_, rfl⟩
  have hl := lv_entry ([.ref h0]) (n := 1) (Nat.le_of_ble_eq_true rfl)
  rw [lg_entry_eq]
  generalize (lg_sl ([.ref h0]) ++ List.replicate (1 - (lg_sl ([.ref h0])).length) Slot.unset).toArray = ls at hl ⊢
  have hl : lv_has ls 1 [(0, .ref h0)] := hl
  refine mu_in hH hlc (fun hS hP hD => ?_) hS hP hD
  clear hH hlc
  refine lv_aload_n hx hb dX4_init_0 rfl (lv_at hl 0 rfl) ?_
  refine W.objInit hx hb hown (hts (.methodLink RX4 3 objectInit) (by decide +kernel)) (hts (.instanceMethod objectInit) (by decide +kernel)) (hts (.code objectInit ⟨#[0xb1]⟩ 1 none) (by decide +kernel)) rfl (by rw [hml]; exact hl.1) rfl dX4_init_1 (Nat.le_of_ble_eq_true rfl) (Nat.le_of_ble_eq_true rfl) ?_
  refine W.eq (g2 := F0 m 4 ls []) rfl ?_
  refine lv_aload_n hx hb dX4_init_4 rfl (lv_at hl 0 rfl) ?_
  refine lv_bipush (v := 16) hx hb dX4_init_5 (by decide) ?_
  refine nw_i hx hb (hts (.arrayClass .int) (by decide +kernel)) hK hP hD hS hA (N := 16) (by decide) (by decide) (by decide) (Nat.le_of_ble_eq_true rfl) (Nat.le_of_ble_eq_true rfl) dX4_init_7 (fun q7 H hP hD hS => ?_)
  have hP : va_P (dC, dI) vwCl [(h0, .inr (4, [.null, .int 0])), (q7, .inl (cI, 16, .inl (fun _ => 0)))] H := hP
  have hD : va_D A [(h0, .inr (4, [.null, .int 0])), (q7, .inl (cI, 16, .inl (fun _ => 0)))] := hD
  refine W.widen (k := 1) (n := 16) (by omega) (by omega) ?_
  refine va_putF (D := (dC, dI)) (ci := 4) (v := .ref q7) (ty := .array .int) (C := RX4) (T := TX4) (N := 2) hx hb hts (by decide +kernel) tyX4 tyX4_ok nmX4 hown hK hP hD hS 0 rfl rfl 0 (by decide) (hts (.fieldLink RX4 9 "AchromatDesk$PlateSet" "radii" "[I") (by decide +kernel)) (fun _ h9 => h9) rfl hin rfl (by decide +kernel) rfl rfl (Nat.le_of_ble_eq_true rfl) dX4_init_9 (fun H locs hP hD hS => ?_)
  have hP : va_P (dC, dI) vwCl [(h0, .inr (4, [.ref q7, .int 0])), (q7, .inl (cI, 16, .inl (fun _ => 0)))] H := hP
  have hD : va_D A [(h0, .inr (4, [.ref q7, .int 0])), (q7, .inl (cI, 16, .inl (fun _ => 0)))] := hD
  exact W.vret hx hb hr (fun t ht hW => ⟨⟨q7, rfl, trivial, by rw [ht]; exact hP, by rw [hAe]; exact hD⟩, hS.F ht⟩) hS.2.2 dX4_init_12

set_option maxHeartbeats 4000000 in
set_option maxRecDepth 100000 in
theorem c_X5_init (l : Launch) (dC : Nat → ClassId) (dI : Nat → Nat → Nat) (cI cJ : ClassId) (sz : Nat) (h0 : Nat) : Met l yX5_init wsX5_init ({ frames := 2, cells := 18, slots := 1108, locals := 40 }) (va_Pc [.ref h0] (MU (dC, dI) (tyK cI cJ) ([(h0, .inr (5, [.null, .null, .null, .null, .null]))]) sz)) (va_Qv (fun (u : Nat → Nat) => u 0 = h0) (MB (dC, dI) ([(h0, .inr (5, [.null, .null, .null, .null, .null]))]) sz (fun (u : Nat → Nat) => [(u 0, .inr (5, [.ref (u 1), .ref (u 3), .ref (u 8), .ref (u 14), .ref (u 17)])), (u 1, .inr (2, [.ref (u 2), .int (nI 0)])), (u 2, .inl (cI, 28, .inl (fun _ => 0))), (u 3, .inr (0, [.ref (u 4), .ref (u 5), .ref (u 6), .ref (u 7), .int (nI 0)])), (u 4, .inl (cJ, 20, .inr (.inl (gK G0)))), (u 5, .inl (cI, 20, .inl (gF G0))), (u 6, .inl (cI, 20, .inl (gD G0))), (u 7, .inl (cI, 20, .inl (gC G0))), (u 8, .inr (1, [.ref (u 9), .ref (u 10), .ref (u 11), .ref (u 12), .ref (u 13), .int (nI 0)])), (u 9, .inl (cI, 190, .inl (fun _ => 0))), (u 10, .inl (cJ, 190, .inr (.inl (fun _ => 0)))), (u 11, .inl (cJ, 190, .inr (.inl (fun _ => 0)))), (u 12, .inl (cJ, 190, .inr (.inl (fun _ => 0)))), (u 13, .inl (cI, 190, .inl (fun _ => 0))), (u 14, .inr (3, [.ref (u 15), .ref (u 16), .int (nI 0)])), (u 15, .inl (cI, 8, .inl (fun _ => 0))), (u 16, .inl (cI, 8, .inl (fun _ => 0))), (u 17, .inr (4, [.ref (u 18), .int (nI 0)])), (u 18, .inl (cI, 16, .inl (fun _ => 0)))])) (va_A ([(h0, .inr (5, [.null, .null, .null, .null, .null]))]) sz)) 18 1108 (va_A ([(h0, .inr (5, [.null, .null, .null, .null, .null]))]) sz) := by
  refine Met.ofW (cc := cX5_init) (maxL := 1) (ret := none) (by decide) rfl ?_
  intro p e s m args below meth c s₁ B hml hv
  obtain ⟨rfl, hsz, hP, hK, hN, hD0⟩ := hv
  have hx := B.exec
  have hb := B.bytes
  have hr := B.returns
  have hts := atoms_spec (ws := wsX5_init) B.pre
  have hown : s.vm.findClass RX5 = some m.cls := findClass_of_methodNamed B.named
  have hlocks := B.notSynchronized
  have hin : meth.name = "<init>" := (name_of_methodNamed B.named B.method).1
  subst hsz
  have hD := hD0.self (sz := s.heap.size)
  generalize hAe : va_A ([(h0, .inr (5, [.null, .null, .null, .null, .null]))]) s.heap.size = A at hD ⊢
  have hA : ∀ q : Nat, s.heap.size ≤ q → A q := fun q h => by rw [← hAe]; exact Or.inr h
  have hS : va_S A s.heap s.heap [] := va_S.rf
  have hP : va_P (dC, dI) vwCl [(h0, .inr (5, [.null, .null, .null, .null, .null]))] s.heap := hP
  have hD : va_D A [(h0, .inr (5, [.null, .null, .null, .null, .null]))] := hD
  obtain ⟨H, hH⟩ : ∃ H : Heap, H = s.heap := ⟨_, rfl⟩
  obtain ⟨locs, hlc⟩ : ∃ locs : List Loc, locs = [] := ⟨_, rfl⟩
  have hl := lv_entry ([.ref h0]) (n := 1) (Nat.le_of_ble_eq_true rfl)
  rw [lg_entry_eq]
  generalize (lg_sl ([.ref h0]) ++ List.replicate (1 - (lg_sl ([.ref h0])).length) Slot.unset).toArray = ls at hl ⊢
  have hl : lv_has ls 1 [(0, .ref h0)] := hl
  refine mu_in hH hlc (fun hS hP hD => ?_) hS hP hD
  clear hH hlc
  refine lv_aload_n hx hb dX5_init_0 rfl (lv_at hl 0 rfl) ?_
  refine W.objInit hx hb hown (hts (.methodLink RX5 3 objectInit) (by decide +kernel)) (hts (.instanceMethod objectInit) (by decide +kernel)) (hts (.code objectInit ⟨#[0xb1]⟩ 1 none) (by decide +kernel)) rfl (by rw [hml]; exact hl.1) rfl dX5_init_1 (Nat.le_of_ble_eq_true rfl) (Nat.le_of_ble_eq_true rfl) ?_
  refine W.eq (g2 := F0 m 4 ls []) rfl ?_
  refine lv_aload_n hx hb dX5_init_4 rfl (lv_at hl 0 rfl) ?_
  refine va_new (ci := 2) (fs := [.null, .int 0]) (C := RX2) (T := TX2) (N := 2) hx hb hts (by decide +kernel) tyX2 tyX2_ok hown (hts (.classLink RX5 9 RX2) (by decide +kernel)) (hts (.instantiable RX2 2) (by decide +kernel)) (hts (.initialized RX2) (by decide +kernel)) hK hP hD hS hA rfl (fun j hj => by rcases (show j = 0 ∨ j = 1 by omega) with rfl | rfl <;> rfl) (Nat.le_of_ble_eq_true rfl) (Nat.le_of_ble_eq_true rfl) dX5_init_5 (fun q5 H hP hD hS => ?_)
  have hP : va_P (dC, dI) vwCl [(h0, .inr (5, [.null, .null, .null, .null, .null])), (q5, .inr (2, [.null, .int 0]))] H := hP
  have hD : va_D A [(h0, .inr (5, [.null, .null, .null, .null, .null])), (q5, .inr (2, [.null, .int 0]))] := hD
  refine W.widen (k := 1) (n := 2) (by omega) (by omega) ?_
  refine lv_dup hx hb dX5_init_8 rfl ?_
  refine muIN (As := []) (rest := [.ref q5, .ref h0]) (wr := [(h0, .inr (5, [.null, .null, .null, .null, .null]))]) (c_X2_init l dC dI cI cJ H.size q5) ⟨hx, hb, hml, hown, hts⟩ (va_cnB 0 hts gX5_init_X2_init_n11 rfl rfl rfl (hN.at 6 rfl) (hts (.initialized RX2) (by decide +kernel)) (by decide +kernel) ⟨Nat.le_of_ble_eq_true rfl, Nat.le_of_ble_eq_true rfl⟩) rfl (hts (.instanceMethod yX2_init) (by decide +kernel)) hP hD hS hA hK hN [1] [0] rfl rfl (by decide) rfl (by decide) (by decide) rfl hl.1 rfl (Nat.le_of_ble_eq_true rfl) dX5_init_9 ⟨Nat.le_of_ble_eq_true rfl, Nat.le_of_ble_eq_true rfl⟩ (fun u9 H locs hr0 hP hD hS => ?_)
  have hP : va_P (dC, dI) vwCl [(h0, .inr (5, [.null, .null, .null, .null, .null])), (q5, .inr (2, [.ref u9, .int 0])), (u9, .inl (cI, 28, .inl (fun _ => 0)))] H := hP
  have hD : va_D A [(h0, .inr (5, [.null, .null, .null, .null, .null])), (q5, .inr (2, [.ref u9, .int 0])), (u9, .inl (cI, 28, .inl (fun _ => 0)))] := hD
  refine W.widen (k := 2) (n := 30) (by omega) (by omega) ?_
  refine va_putF (D := (dC, dI)) (ci := 5) (v := .ref q5) (ty := .object "AchromatDesk$GlassText") (C := RX5) (T := TX5) (N := 5) hx hb hts (by decide +kernel) tyX5 tyX5_ok nmX5 hown hK hP hD hS 0 rfl rfl 0 (by decide) (hts (.fieldLink RX5 12 "AchromatDesk" "buffer" "LAchromatDesk$GlassText;") (by decide +kernel)) (fun _ h9 => h9) rfl hin rfl (by decide +kernel) rfl rfl (Nat.le_of_ble_eq_true rfl) dX5_init_12 (fun H locs hP hD hS => ?_)
  have hP : va_P (dC, dI) vwCl [(h0, .inr (5, [.ref q5, .null, .null, .null, .null])), (q5, .inr (2, [.ref u9, .int 0])), (u9, .inl (cI, 28, .inl (fun _ => 0)))] H := hP
  have hD : va_D A [(h0, .inr (5, [.ref q5, .null, .null, .null, .null])), (q5, .inr (2, [.ref u9, .int 0])), (u9, .inl (cI, 28, .inl (fun _ => 0)))] := hD
  refine lv_aload_n hx hb dX5_init_15 rfl (lv_at hl 0 rfl) ?_
  refine va_new (ci := 0) (fs := [.null, .null, .null, .null, .int 0]) (C := RX0) (T := TX0) (N := 5) hx hb hts (by decide +kernel) tyX0 tyX0_ok hown (hts (.classLink RX5 16 RX0) (by decide +kernel)) (hts (.instantiable RX0 5) (by decide +kernel)) (hts (.initialized RX0) (by decide +kernel)) hK hP hD hS hA rfl (fun j hj => by rcases (show j = 0 ∨ j = 1 ∨ j = 2 ∨ j = 3 ∨ j = 4 by omega) with rfl | rfl | rfl | rfl | rfl <;> rfl) (Nat.le_of_ble_eq_true rfl) (Nat.le_of_ble_eq_true rfl) dX5_init_16 (fun q16 H hP hD hS => ?_)
  have hP : va_P (dC, dI) vwCl [(h0, .inr (5, [.ref q5, .null, .null, .null, .null])), (q5, .inr (2, [.ref u9, .int 0])), (u9, .inl (cI, 28, .inl (fun _ => 0))), (q16, .inr (0, [.null, .null, .null, .null, .int 0]))] H := hP
  have hD : va_D A [(h0, .inr (5, [.ref q5, .null, .null, .null, .null])), (q5, .inr (2, [.ref u9, .int 0])), (u9, .inl (cI, 28, .inl (fun _ => 0))), (q16, .inr (0, [.null, .null, .null, .null, .int 0]))] := hD
  refine W.widen (k := 3) (n := 35) (by omega) (by omega) ?_
  refine lv_dup hx hb dX5_init_19 rfl ?_
  refine muIN (As := []) (rest := [.ref q16, .ref h0]) (wr := [(h0, .inr (5, [.ref q5, .null, .null, .null, .null])), (q5, .inr (2, [.ref u9, .int 0])), (u9, .inl (cI, 28, .inl (fun _ => 0)))]) (c_X0_init l dC dI cI cJ H.size q16) ⟨hx, hb, hml, hown, hts⟩ (va_cnB 0 hts gX5_init_X0_init_n18 rfl rfl rfl (hN.at 7 rfl) (hts (.initialized RX0) (by decide +kernel)) (by decide +kernel) ⟨Nat.le_of_ble_eq_true rfl, Nat.le_of_ble_eq_true rfl⟩) rfl (hts (.instanceMethod yX0_init) (by decide +kernel)) hP hD hS hA hK hN [3] [0, 1, 2] rfl rfl (by decide) rfl (by decide) (by decide) rfl hl.1 rfl (Nat.le_of_ble_eq_true rfl) dX5_init_20 ⟨Nat.le_of_ble_eq_true rfl, Nat.le_of_ble_eq_true rfl⟩ (fun u20 H locs hr0 hP hD hS => ?_)
  have hP : va_P (dC, dI) vwCl [(h0, .inr (5, [.ref q5, .null, .null, .null, .null])), (q5, .inr (2, [.ref u9, .int 0])), (u9, .inl (cI, 28, .inl (fun _ => 0))), (q16, .inr (0, [.ref u20.1, .ref u20.2.1, .ref u20.2.2.1, .ref u20.2.2.2, .int 0])), (u20.1, .inl (cJ, 20, .inr (.inl (fun _ => 0)))), (u20.2.1, .inl (cI, 20, .inl (fun _ => 0))), (u20.2.2.1, .inl (cI, 20, .inl (fun _ => 0))), (u20.2.2.2, .inl (cI, 20, .inl (fun _ => 0)))] H := hP
  have hD : va_D A [(h0, .inr (5, [.ref q5, .null, .null, .null, .null])), (q5, .inr (2, [.ref u9, .int 0])), (u9, .inl (cI, 28, .inl (fun _ => 0))), (q16, .inr (0, [.ref u20.1, .ref u20.2.1, .ref u20.2.2.1, .ref u20.2.2.2, .int 0])), (u20.1, .inl (cJ, 20, .inr (.inl (fun _ => 0)))), (u20.2.1, .inl (cI, 20, .inl (fun _ => 0))), (u20.2.2.1, .inl (cI, 20, .inl (fun _ => 0))), (u20.2.2.2, .inl (cI, 20, .inl (fun _ => 0)))] := hD
  refine W.widen (k := 7) (n := 115) (by omega) (by omega) ?_
  refine va_putF (D := (dC, dI)) (ci := 5) (v := .ref q16) (ty := .object "AchromatDesk$Catalogue") (C := RX5) (T := TX5) (N := 5) hx hb hts (by decide +kernel) tyX5 tyX5_ok nmX5 hown hK hP hD hS 0 rfl rfl 1 (by decide) (hts (.fieldLink RX5 19 "AchromatDesk" "glasses" "LAchromatDesk$Catalogue;") (by decide +kernel)) (fun _ h9 => h9) rfl hin rfl (by decide +kernel) rfl rfl (Nat.le_of_ble_eq_true rfl) dX5_init_23 (fun H locs hP hD hS => ?_)
  have hP : va_P (dC, dI) vwCl [(h0, .inr (5, [.ref q5, .ref q16, .null, .null, .null])), (q5, .inr (2, [.ref u9, .int 0])), (u9, .inl (cI, 28, .inl (fun _ => 0))), (q16, .inr (0, [.ref u20.1, .ref u20.2.1, .ref u20.2.2.1, .ref u20.2.2.2, .int 0])), (u20.1, .inl (cJ, 20, .inr (.inl (fun _ => 0)))), (u20.2.1, .inl (cI, 20, .inl (fun _ => 0))), (u20.2.2.1, .inl (cI, 20, .inl (fun _ => 0))), (u20.2.2.2, .inl (cI, 20, .inl (fun _ => 0)))] H := hP
  have hD : va_D A [(h0, .inr (5, [.ref q5, .ref q16, .null, .null, .null])), (q5, .inr (2, [.ref u9, .int 0])), (u9, .inl (cI, 28, .inl (fun _ => 0))), (q16, .inr (0, [.ref u20.1, .ref u20.2.1, .ref u20.2.2.1, .ref u20.2.2.2, .int 0])), (u20.1, .inl (cJ, 20, .inr (.inl (fun _ => 0)))), (u20.2.1, .inl (cI, 20, .inl (fun _ => 0))), (u20.2.2.1, .inl (cI, 20, .inl (fun _ => 0))), (u20.2.2.2, .inl (cI, 20, .inl (fun _ => 0)))] := hD
  refine lv_aload_n hx hb dX5_init_26 rfl (lv_at hl 0 rfl) ?_
  refine va_new (ci := 1) (fs := [.null, .null, .null, .null, .null, .int 0]) (C := RX1) (T := TX1) (N := 6) hx hb hts (by decide +kernel) tyX1 tyX1_ok hown (hts (.classLink RX5 23 RX1) (by decide +kernel)) (hts (.instantiable RX1 6) (by decide +kernel)) (hts (.initialized RX1) (by decide +kernel)) hK hP hD hS hA rfl (fun j hj => by rcases (show j = 0 ∨ j = 1 ∨ j = 2 ∨ j = 3 ∨ j = 4 ∨ j = 5 by omega) with rfl | rfl | rfl | rfl | rfl | rfl <;> rfl) (Nat.le_of_ble_eq_true rfl) (Nat.le_of_ble_eq_true rfl) dX5_init_27 (fun q27 H hP hD hS => ?_)
  have hP : va_P (dC, dI) vwCl [(h0, .inr (5, [.ref q5, .ref q16, .null, .null, .null])), (q5, .inr (2, [.ref u9, .int 0])), (u9, .inl (cI, 28, .inl (fun _ => 0))), (q16, .inr (0, [.ref u20.1, .ref u20.2.1, .ref u20.2.2.1, .ref u20.2.2.2, .int 0])), (u20.1, .inl (cJ, 20, .inr (.inl (fun _ => 0)))), (u20.2.1, .inl (cI, 20, .inl (fun _ => 0))), (u20.2.2.1, .inl (cI, 20, .inl (fun _ => 0))), (u20.2.2.2, .inl (cI, 20, .inl (fun _ => 0))), (q27, .inr (1, [.null, .null, .null, .null, .null, .int 0]))] H := hP
  have hD : va_D A [(h0, .inr (5, [.ref q5, .ref q16, .null, .null, .null])), (q5, .inr (2, [.ref u9, .int 0])), (u9, .inl (cI, 28, .inl (fun _ => 0))), (q16, .inr (0, [.ref u20.1, .ref u20.2.1, .ref u20.2.2.1, .ref u20.2.2.2, .int 0])), (u20.1, .inl (cJ, 20, .inr (.inl (fun _ => 0)))), (u20.2.1, .inl (cI, 20, .inl (fun _ => 0))), (u20.2.2.1, .inl (cI, 20, .inl (fun _ => 0))), (u20.2.2.2, .inl (cI, 20, .inl (fun _ => 0))), (q27, .inr (1, [.null, .null, .null, .null, .null, .int 0]))] := hD
  refine W.widen (k := 8) (n := 121) (by omega) (by omega) ?_
  refine lv_dup hx hb dX5_init_30 rfl ?_
  refine muIN (As := []) (rest := [.ref q27, .ref h0]) (wr := [(h0, .inr (5, [.ref q5, .ref q16, .null, .null, .null])), (q5, .inr (2, [.ref u9, .int 0])), (u9, .inl (cI, 28, .inl (fun _ => 0))), (q16, .inr (0, [.ref u20.1, .ref u20.2.1, .ref u20.2.2.1, .ref u20.2.2.2, .int 0])), (u20.1, .inl (cJ, 20, .inr (.inl (fun _ => 0)))), (u20.2.1, .inl (cI, 20, .inl (fun _ => 0))), (u20.2.2.1, .inl (cI, 20, .inl (fun _ => 0))), (u20.2.2.2, .inl (cI, 20, .inl (fun _ => 0)))]) (c_X1_init l dC dI cI cJ H.size q27) ⟨hx, hb, hml, hown, hts⟩ (va_cnB 0 hts gX5_init_X1_init_n25 rfl rfl rfl (hN.at 8 rfl) (hts (.initialized RX1) (by decide +kernel)) (by decide +kernel) ⟨Nat.le_of_ble_eq_true rfl, Nat.le_of_ble_eq_true rfl⟩) rfl (hts (.instanceMethod yX1_init) (by decide +kernel)) hP hD hS hA hK hN [8] [0, 1, 2, 3, 4, 5, 6, 7] rfl rfl (by decide) rfl (by decide) (by decide) rfl hl.1 rfl (Nat.le_of_ble_eq_true rfl) dX5_init_31 ⟨Nat.le_of_ble_eq_true rfl, Nat.le_of_ble_eq_true rfl⟩ (fun u31 H locs hr0 hP hD hS => ?_)
  have hP : va_P (dC, dI) vwCl [(h0, .inr (5, [.ref q5, .ref q16, .null, .null, .null])), (q5, .inr (2, [.ref u9, .int 0])), (u9, .inl (cI, 28, .inl (fun _ => 0))), (q16, .inr (0, [.ref u20.1, .ref u20.2.1, .ref u20.2.2.1, .ref u20.2.2.2, .int 0])), (u20.1, .inl (cJ, 20, .inr (.inl (fun _ => 0)))), (u20.2.1, .inl (cI, 20, .inl (fun _ => 0))), (u20.2.2.1, .inl (cI, 20, .inl (fun _ => 0))), (u20.2.2.2, .inl (cI, 20, .inl (fun _ => 0))), (q27, .inr (1, [.ref u31.1, .ref u31.2.1, .ref u31.2.2.1, .ref u31.2.2.2.1, .ref u31.2.2.2.2, .int 0])), (u31.1, .inl (cI, 190, .inl (fun _ => 0))), (u31.2.1, .inl (cJ, 190, .inr (.inl (fun _ => 0)))), (u31.2.2.1, .inl (cJ, 190, .inr (.inl (fun _ => 0)))), (u31.2.2.2.1, .inl (cJ, 190, .inr (.inl (fun _ => 0)))), (u31.2.2.2.2, .inl (cI, 190, .inl (fun _ => 0)))] H := hP
  have hD : va_D A [(h0, .inr (5, [.ref q5, .ref q16, .null, .null, .null])), (q5, .inr (2, [.ref u9, .int 0])), (u9, .inl (cI, 28, .inl (fun _ => 0))), (q16, .inr (0, [.ref u20.1, .ref u20.2.1, .ref u20.2.2.1, .ref u20.2.2.2, .int 0])), (u20.1, .inl (cJ, 20, .inr (.inl (fun _ => 0)))), (u20.2.1, .inl (cI, 20, .inl (fun _ => 0))), (u20.2.2.1, .inl (cI, 20, .inl (fun _ => 0))), (u20.2.2.2, .inl (cI, 20, .inl (fun _ => 0))), (q27, .inr (1, [.ref u31.1, .ref u31.2.1, .ref u31.2.2.1, .ref u31.2.2.2.1, .ref u31.2.2.2.2, .int 0])), (u31.1, .inl (cI, 190, .inl (fun _ => 0))), (u31.2.1, .inl (cJ, 190, .inr (.inl (fun _ => 0)))), (u31.2.2.1, .inl (cJ, 190, .inr (.inl (fun _ => 0)))), (u31.2.2.2.1, .inl (cJ, 190, .inr (.inl (fun _ => 0)))), (u31.2.2.2.2, .inl (cI, 190, .inl (fun _ => 0)))] := hD
  refine W.widen (k := 13) (n := 1071) (by omega) (by omega) ?_
  refine va_putF (D := (dC, dI)) (ci := 5) (v := .ref q27) (ty := .object "AchromatDesk$DoubletRanking") (C := RX5) (T := TX5) (N := 5) hx hb hts (by decide +kernel) tyX5 tyX5_ok nmX5 hown hK hP hD hS 0 rfl rfl 2 (by decide) (hts (.fieldLink RX5 26 "AchromatDesk" "doublets" "LAchromatDesk$DoubletRanking;") (by decide +kernel)) (fun _ h9 => h9) rfl hin rfl (by decide +kernel) rfl rfl (Nat.le_of_ble_eq_true rfl) dX5_init_34 (fun H locs hP hD hS => ?_)
  have hP : va_P (dC, dI) vwCl [(h0, .inr (5, [.ref q5, .ref q16, .ref q27, .null, .null])), (q5, .inr (2, [.ref u9, .int 0])), (u9, .inl (cI, 28, .inl (fun _ => 0))), (q16, .inr (0, [.ref u20.1, .ref u20.2.1, .ref u20.2.2.1, .ref u20.2.2.2, .int 0])), (u20.1, .inl (cJ, 20, .inr (.inl (fun _ => 0)))), (u20.2.1, .inl (cI, 20, .inl (fun _ => 0))), (u20.2.2.1, .inl (cI, 20, .inl (fun _ => 0))), (u20.2.2.2, .inl (cI, 20, .inl (fun _ => 0))), (q27, .inr (1, [.ref u31.1, .ref u31.2.1, .ref u31.2.2.1, .ref u31.2.2.2.1, .ref u31.2.2.2.2, .int 0])), (u31.1, .inl (cI, 190, .inl (fun _ => 0))), (u31.2.1, .inl (cJ, 190, .inr (.inl (fun _ => 0)))), (u31.2.2.1, .inl (cJ, 190, .inr (.inl (fun _ => 0)))), (u31.2.2.2.1, .inl (cJ, 190, .inr (.inl (fun _ => 0)))), (u31.2.2.2.2, .inl (cI, 190, .inl (fun _ => 0)))] H := hP
  have hD : va_D A [(h0, .inr (5, [.ref q5, .ref q16, .ref q27, .null, .null])), (q5, .inr (2, [.ref u9, .int 0])), (u9, .inl (cI, 28, .inl (fun _ => 0))), (q16, .inr (0, [.ref u20.1, .ref u20.2.1, .ref u20.2.2.1, .ref u20.2.2.2, .int 0])), (u20.1, .inl (cJ, 20, .inr (.inl (fun _ => 0)))), (u20.2.1, .inl (cI, 20, .inl (fun _ => 0))), (u20.2.2.1, .inl (cI, 20, .inl (fun _ => 0))), (u20.2.2.2, .inl (cI, 20, .inl (fun _ => 0))), (q27, .inr (1, [.ref u31.1, .ref u31.2.1, .ref u31.2.2.1, .ref u31.2.2.2.1, .ref u31.2.2.2.2, .int 0])), (u31.1, .inl (cI, 190, .inl (fun _ => 0))), (u31.2.1, .inl (cJ, 190, .inr (.inl (fun _ => 0)))), (u31.2.2.1, .inl (cJ, 190, .inr (.inl (fun _ => 0)))), (u31.2.2.2.1, .inl (cJ, 190, .inr (.inl (fun _ => 0)))), (u31.2.2.2.2, .inl (cI, 190, .inl (fun _ => 0)))] := hD
  refine lv_aload_n hx hb dX5_init_37 rfl (lv_at hl 0 rfl) ?_
  refine va_new (ci := 3) (fs := [.null, .null, .int 0]) (C := RX3) (T := TX3) (N := 3) hx hb hts (by decide +kernel) tyX3 tyX3_ok hown (hts (.classLink RX5 30 RX3) (by decide +kernel)) (hts (.instantiable RX3 3) (by decide +kernel)) (hts (.initialized RX3) (by decide +kernel)) hK hP hD hS hA rfl (fun j hj => by rcases (show j = 0 ∨ j = 1 ∨ j = 2 by omega) with rfl | rfl | rfl <;> rfl) (Nat.le_of_ble_eq_true rfl) (Nat.le_of_ble_eq_true rfl) dX5_init_38 (fun q38 H hP hD hS => ?_)
  have hP : va_P (dC, dI) vwCl [(h0, .inr (5, [.ref q5, .ref q16, .ref q27, .null, .null])), (q5, .inr (2, [.ref u9, .int 0])), (u9, .inl (cI, 28, .inl (fun _ => 0))), (q16, .inr (0, [.ref u20.1, .ref u20.2.1, .ref u20.2.2.1, .ref u20.2.2.2, .int 0])), (u20.1, .inl (cJ, 20, .inr (.inl (fun _ => 0)))), (u20.2.1, .inl (cI, 20, .inl (fun _ => 0))), (u20.2.2.1, .inl (cI, 20, .inl (fun _ => 0))), (u20.2.2.2, .inl (cI, 20, .inl (fun _ => 0))), (q27, .inr (1, [.ref u31.1, .ref u31.2.1, .ref u31.2.2.1, .ref u31.2.2.2.1, .ref u31.2.2.2.2, .int 0])), (u31.1, .inl (cI, 190, .inl (fun _ => 0))), (u31.2.1, .inl (cJ, 190, .inr (.inl (fun _ => 0)))), (u31.2.2.1, .inl (cJ, 190, .inr (.inl (fun _ => 0)))), (u31.2.2.2.1, .inl (cJ, 190, .inr (.inl (fun _ => 0)))), (u31.2.2.2.2, .inl (cI, 190, .inl (fun _ => 0))), (q38, .inr (3, [.null, .null, .int 0]))] H := hP
  have hD : va_D A [(h0, .inr (5, [.ref q5, .ref q16, .ref q27, .null, .null])), (q5, .inr (2, [.ref u9, .int 0])), (u9, .inl (cI, 28, .inl (fun _ => 0))), (q16, .inr (0, [.ref u20.1, .ref u20.2.1, .ref u20.2.2.1, .ref u20.2.2.2, .int 0])), (u20.1, .inl (cJ, 20, .inr (.inl (fun _ => 0)))), (u20.2.1, .inl (cI, 20, .inl (fun _ => 0))), (u20.2.2.1, .inl (cI, 20, .inl (fun _ => 0))), (u20.2.2.2, .inl (cI, 20, .inl (fun _ => 0))), (q27, .inr (1, [.ref u31.1, .ref u31.2.1, .ref u31.2.2.1, .ref u31.2.2.2.1, .ref u31.2.2.2.2, .int 0])), (u31.1, .inl (cI, 190, .inl (fun _ => 0))), (u31.2.1, .inl (cJ, 190, .inr (.inl (fun _ => 0)))), (u31.2.2.1, .inl (cJ, 190, .inr (.inl (fun _ => 0)))), (u31.2.2.2.1, .inl (cJ, 190, .inr (.inl (fun _ => 0)))), (u31.2.2.2.2, .inl (cI, 190, .inl (fun _ => 0))), (q38, .inr (3, [.null, .null, .int 0]))] := hD
  refine W.widen (k := 14) (n := 1074) (by omega) (by omega) ?_
  refine lv_dup hx hb dX5_init_41 rfl ?_
  refine muIN (As := []) (rest := [.ref q38, .ref h0]) (wr := [(h0, .inr (5, [.ref q5, .ref q16, .ref q27, .null, .null])), (q5, .inr (2, [.ref u9, .int 0])), (u9, .inl (cI, 28, .inl (fun _ => 0))), (q16, .inr (0, [.ref u20.1, .ref u20.2.1, .ref u20.2.2.1, .ref u20.2.2.2, .int 0])), (u20.1, .inl (cJ, 20, .inr (.inl (fun _ => 0)))), (u20.2.1, .inl (cI, 20, .inl (fun _ => 0))), (u20.2.2.1, .inl (cI, 20, .inl (fun _ => 0))), (u20.2.2.2, .inl (cI, 20, .inl (fun _ => 0))), (q27, .inr (1, [.ref u31.1, .ref u31.2.1, .ref u31.2.2.1, .ref u31.2.2.2.1, .ref u31.2.2.2.2, .int 0])), (u31.1, .inl (cI, 190, .inl (fun _ => 0))), (u31.2.1, .inl (cJ, 190, .inr (.inl (fun _ => 0)))), (u31.2.2.1, .inl (cJ, 190, .inr (.inl (fun _ => 0)))), (u31.2.2.2.1, .inl (cJ, 190, .inr (.inl (fun _ => 0)))), (u31.2.2.2.2, .inl (cI, 190, .inl (fun _ => 0)))]) (c_X3_init l dC dI cI cJ H.size q38) ⟨hx, hb, hml, hown, hts⟩ (va_cnB 0 hts gX5_init_X3_init_n32 rfl rfl rfl (hN.at 9 rfl) (hts (.initialized RX3) (by decide +kernel)) (by decide +kernel) ⟨Nat.le_of_ble_eq_true rfl, Nat.le_of_ble_eq_true rfl⟩) rfl (hts (.instanceMethod yX3_init) (by decide +kernel)) hP hD hS hA hK hN [14] [0, 1, 2, 3, 4, 5, 6, 7, 8, 9, 10, 11, 12, 13] rfl rfl (by decide) rfl (by decide) (by decide) rfl hl.1 rfl (Nat.le_of_ble_eq_true rfl) dX5_init_42 ⟨Nat.le_of_ble_eq_true rfl, Nat.le_of_ble_eq_true rfl⟩ (fun u42 H locs hr0 hP hD hS => ?_)
  have hP : va_P (dC, dI) vwCl [(h0, .inr (5, [.ref q5, .ref q16, .ref q27, .null, .null])), (q5, .inr (2, [.ref u9, .int 0])), (u9, .inl (cI, 28, .inl (fun _ => 0))), (q16, .inr (0, [.ref u20.1, .ref u20.2.1, .ref u20.2.2.1, .ref u20.2.2.2, .int 0])), (u20.1, .inl (cJ, 20, .inr (.inl (fun _ => 0)))), (u20.2.1, .inl (cI, 20, .inl (fun _ => 0))), (u20.2.2.1, .inl (cI, 20, .inl (fun _ => 0))), (u20.2.2.2, .inl (cI, 20, .inl (fun _ => 0))), (q27, .inr (1, [.ref u31.1, .ref u31.2.1, .ref u31.2.2.1, .ref u31.2.2.2.1, .ref u31.2.2.2.2, .int 0])), (u31.1, .inl (cI, 190, .inl (fun _ => 0))), (u31.2.1, .inl (cJ, 190, .inr (.inl (fun _ => 0)))), (u31.2.2.1, .inl (cJ, 190, .inr (.inl (fun _ => 0)))), (u31.2.2.2.1, .inl (cJ, 190, .inr (.inl (fun _ => 0)))), (u31.2.2.2.2, .inl (cI, 190, .inl (fun _ => 0))), (q38, .inr (3, [.ref u42.1, .ref u42.2, .int 0])), (u42.1, .inl (cI, 8, .inl (fun _ => 0))), (u42.2, .inl (cI, 8, .inl (fun _ => 0)))] H := hP
  have hD : va_D A [(h0, .inr (5, [.ref q5, .ref q16, .ref q27, .null, .null])), (q5, .inr (2, [.ref u9, .int 0])), (u9, .inl (cI, 28, .inl (fun _ => 0))), (q16, .inr (0, [.ref u20.1, .ref u20.2.1, .ref u20.2.2.1, .ref u20.2.2.2, .int 0])), (u20.1, .inl (cJ, 20, .inr (.inl (fun _ => 0)))), (u20.2.1, .inl (cI, 20, .inl (fun _ => 0))), (u20.2.2.1, .inl (cI, 20, .inl (fun _ => 0))), (u20.2.2.2, .inl (cI, 20, .inl (fun _ => 0))), (q27, .inr (1, [.ref u31.1, .ref u31.2.1, .ref u31.2.2.1, .ref u31.2.2.2.1, .ref u31.2.2.2.2, .int 0])), (u31.1, .inl (cI, 190, .inl (fun _ => 0))), (u31.2.1, .inl (cJ, 190, .inr (.inl (fun _ => 0)))), (u31.2.2.1, .inl (cJ, 190, .inr (.inl (fun _ => 0)))), (u31.2.2.2.1, .inl (cJ, 190, .inr (.inl (fun _ => 0)))), (u31.2.2.2.2, .inl (cI, 190, .inl (fun _ => 0))), (q38, .inr (3, [.ref u42.1, .ref u42.2, .int 0])), (u42.1, .inl (cI, 8, .inl (fun _ => 0))), (u42.2, .inl (cI, 8, .inl (fun _ => 0)))] := hD
  refine W.widen (k := 16) (n := 1090) (by omega) (by omega) ?_
  refine va_putF (D := (dC, dI)) (ci := 5) (v := .ref q38) (ty := .object "AchromatDesk$LensSystem") (C := RX5) (T := TX5) (N := 5) hx hb hts (by decide +kernel) tyX5 tyX5_ok nmX5 hown hK hP hD hS 0 rfl rfl 3 (by decide) (hts (.fieldLink RX5 33 "AchromatDesk" "system" "LAchromatDesk$LensSystem;") (by decide +kernel)) (fun _ h9 => h9) rfl hin rfl (by decide +kernel) rfl rfl (Nat.le_of_ble_eq_true rfl) dX5_init_45 (fun H locs hP hD hS => ?_)
  have hP : va_P (dC, dI) vwCl [(h0, .inr (5, [.ref q5, .ref q16, .ref q27, .ref q38, .null])), (q5, .inr (2, [.ref u9, .int 0])), (u9, .inl (cI, 28, .inl (fun _ => 0))), (q16, .inr (0, [.ref u20.1, .ref u20.2.1, .ref u20.2.2.1, .ref u20.2.2.2, .int 0])), (u20.1, .inl (cJ, 20, .inr (.inl (fun _ => 0)))), (u20.2.1, .inl (cI, 20, .inl (fun _ => 0))), (u20.2.2.1, .inl (cI, 20, .inl (fun _ => 0))), (u20.2.2.2, .inl (cI, 20, .inl (fun _ => 0))), (q27, .inr (1, [.ref u31.1, .ref u31.2.1, .ref u31.2.2.1, .ref u31.2.2.2.1, .ref u31.2.2.2.2, .int 0])), (u31.1, .inl (cI, 190, .inl (fun _ => 0))), (u31.2.1, .inl (cJ, 190, .inr (.inl (fun _ => 0)))), (u31.2.2.1, .inl (cJ, 190, .inr (.inl (fun _ => 0)))), (u31.2.2.2.1, .inl (cJ, 190, .inr (.inl (fun _ => 0)))), (u31.2.2.2.2, .inl (cI, 190, .inl (fun _ => 0))), (q38, .inr (3, [.ref u42.1, .ref u42.2, .int 0])), (u42.1, .inl (cI, 8, .inl (fun _ => 0))), (u42.2, .inl (cI, 8, .inl (fun _ => 0)))] H := hP
  have hD : va_D A [(h0, .inr (5, [.ref q5, .ref q16, .ref q27, .ref q38, .null])), (q5, .inr (2, [.ref u9, .int 0])), (u9, .inl (cI, 28, .inl (fun _ => 0))), (q16, .inr (0, [.ref u20.1, .ref u20.2.1, .ref u20.2.2.1, .ref u20.2.2.2, .int 0])), (u20.1, .inl (cJ, 20, .inr (.inl (fun _ => 0)))), (u20.2.1, .inl (cI, 20, .inl (fun _ => 0))), (u20.2.2.1, .inl (cI, 20, .inl (fun _ => 0))), (u20.2.2.2, .inl (cI, 20, .inl (fun _ => 0))), (q27, .inr (1, [.ref u31.1, .ref u31.2.1, .ref u31.2.2.1, .ref u31.2.2.2.1, .ref u31.2.2.2.2, .int 0])), (u31.1, .inl (cI, 190, .inl (fun _ => 0))), (u31.2.1, .inl (cJ, 190, .inr (.inl (fun _ => 0)))), (u31.2.2.1, .inl (cJ, 190, .inr (.inl (fun _ => 0)))), (u31.2.2.2.1, .inl (cJ, 190, .inr (.inl (fun _ => 0)))), (u31.2.2.2.2, .inl (cI, 190, .inl (fun _ => 0))), (q38, .inr (3, [.ref u42.1, .ref u42.2, .int 0])), (u42.1, .inl (cI, 8, .inl (fun _ => 0))), (u42.2, .inl (cI, 8, .inl (fun _ => 0)))] := hD
  refine lv_aload_n hx hb dX5_init_48 rfl (lv_at hl 0 rfl) ?_
  refine va_new (ci := 4) (fs := [.null, .int 0]) (C := RX4) (T := TX4) (N := 2) hx hb hts (by decide +kernel) tyX4 tyX4_ok hown (hts (.classLink RX5 37 RX4) (by decide +kernel)) (hts (.instantiable RX4 2) (by decide +kernel)) (hts (.initialized RX4) (by decide +kernel)) hK hP hD hS hA rfl (fun j hj => by rcases (show j = 0 ∨ j = 1 by omega) with rfl | rfl <;> rfl) (Nat.le_of_ble_eq_true rfl) (Nat.le_of_ble_eq_true rfl) dX5_init_49 (fun q49 H hP hD hS => ?_)
  have hP : va_P (dC, dI) vwCl [(h0, .inr (5, [.ref q5, .ref q16, .ref q27, .ref q38, .null])), (q5, .inr (2, [.ref u9, .int 0])), (u9, .inl (cI, 28, .inl (fun _ => 0))), (q16, .inr (0, [.ref u20.1, .ref u20.2.1, .ref u20.2.2.1, .ref u20.2.2.2, .int 0])), (u20.1, .inl (cJ, 20, .inr (.inl (fun _ => 0)))), (u20.2.1, .inl (cI, 20, .inl (fun _ => 0))), (u20.2.2.1, .inl (cI, 20, .inl (fun _ => 0))), (u20.2.2.2, .inl (cI, 20, .inl (fun _ => 0))), (q27, .inr (1, [.ref u31.1, .ref u31.2.1, .ref u31.2.2.1, .ref u31.2.2.2.1, .ref u31.2.2.2.2, .int 0])), (u31.1, .inl (cI, 190, .inl (fun _ => 0))), (u31.2.1, .inl (cJ, 190, .inr (.inl (fun _ => 0)))), (u31.2.2.1, .inl (cJ, 190, .inr (.inl (fun _ => 0)))), (u31.2.2.2.1, .inl (cJ, 190, .inr (.inl (fun _ => 0)))), (u31.2.2.2.2, .inl (cI, 190, .inl (fun _ => 0))), (q38, .inr (3, [.ref u42.1, .ref u42.2, .int 0])), (u42.1, .inl (cI, 8, .inl (fun _ => 0))), (u42.2, .inl (cI, 8, .inl (fun _ => 0))), (q49, .inr (4, [.null, .int 0]))] H := hP
  have hD : va_D A [(h0, .inr (5, [.ref q5, .ref q16, .ref q27, .ref q38, .null])), (q5, .inr (2, [.ref u9, .int 0])), (u9, .inl (cI, 28, .inl (fun _ => 0))), (q16, .inr (0, [.ref u20.1, .ref u20.2.1, .ref u20.2.2.1, .ref u20.2.2.2, .int 0])), (u20.1, .inl (cJ, 20, .inr (.inl (fun _ => 0)))), (u20.2.1, .inl (cI, 20, .inl (fun _ => 0))), (u20.2.2.1, .inl (cI, 20, .inl (fun _ => 0))), (u20.2.2.2, .inl (cI, 20, .inl (fun _ => 0))), (q27, .inr (1, [.ref u31.1, .ref u31.2.1, .ref u31.2.2.1, .ref u31.2.2.2.1, .ref u31.2.2.2.2, .int 0])), (u31.1, .inl (cI, 190, .inl (fun _ => 0))), (u31.2.1, .inl (cJ, 190, .inr (.inl (fun _ => 0)))), (u31.2.2.1, .inl (cJ, 190, .inr (.inl (fun _ => 0)))), (u31.2.2.2.1, .inl (cJ, 190, .inr (.inl (fun _ => 0)))), (u31.2.2.2.2, .inl (cI, 190, .inl (fun _ => 0))), (q38, .inr (3, [.ref u42.1, .ref u42.2, .int 0])), (u42.1, .inl (cI, 8, .inl (fun _ => 0))), (u42.2, .inl (cI, 8, .inl (fun _ => 0))), (q49, .inr (4, [.null, .int 0]))] := hD
  refine W.widen (k := 17) (n := 1092) (by omega) (by omega) ?_
  refine lv_dup hx hb dX5_init_52 rfl ?_
  refine muIN (As := []) (rest := [.ref q49, .ref h0]) (wr := [(h0, .inr (5, [.ref q5, .ref q16, .ref q27, .ref q38, .null])), (q5, .inr (2, [.ref u9, .int 0])), (u9, .inl (cI, 28, .inl (fun _ => 0))), (q16, .inr (0, [.ref u20.1, .ref u20.2.1, .ref u20.2.2.1, .ref u20.2.2.2, .int 0])), (u20.1, .inl (cJ, 20, .inr (.inl (fun _ => 0)))), (u20.2.1, .inl (cI, 20, .inl (fun _ => 0))), (u20.2.2.1, .inl (cI, 20, .inl (fun _ => 0))), (u20.2.2.2, .inl (cI, 20, .inl (fun _ => 0))), (q27, .inr (1, [.ref u31.1, .ref u31.2.1, .ref u31.2.2.1, .ref u31.2.2.2.1, .ref u31.2.2.2.2, .int 0])), (u31.1, .inl (cI, 190, .inl (fun _ => 0))), (u31.2.1, .inl (cJ, 190, .inr (.inl (fun _ => 0)))), (u31.2.2.1, .inl (cJ, 190, .inr (.inl (fun _ => 0)))), (u31.2.2.2.1, .inl (cJ, 190, .inr (.inl (fun _ => 0)))), (u31.2.2.2.2, .inl (cI, 190, .inl (fun _ => 0))), (q38, .inr (3, [.ref u42.1, .ref u42.2, .int 0])), (u42.1, .inl (cI, 8, .inl (fun _ => 0))), (u42.2, .inl (cI, 8, .inl (fun _ => 0)))]) (c_X4_init l dC dI cI cJ H.size q49) ⟨hx, hb, hml, hown, hts⟩ (va_cnB 0 hts gX5_init_X4_init_n39 rfl rfl rfl (hN.at 10 rfl) (hts (.initialized RX4) (by decide +kernel)) (by decide +kernel) ⟨Nat.le_of_ble_eq_true rfl, Nat.le_of_ble_eq_true rfl⟩) rfl (hts (.instanceMethod yX4_init) (by decide +kernel)) hP hD hS hA hK hN [17] [0, 1, 2, 3, 4, 5, 6, 7, 8, 9, 10, 11, 12, 13, 14, 15, 16] rfl rfl (by decide) rfl (by decide) (by decide) rfl hl.1 rfl (Nat.le_of_ble_eq_true rfl) dX5_init_53 ⟨Nat.le_of_ble_eq_true rfl, Nat.le_of_ble_eq_true rfl⟩ (fun u53 H locs hr0 hP hD hS => ?_)
  have hP : va_P (dC, dI) vwCl [(h0, .inr (5, [.ref q5, .ref q16, .ref q27, .ref q38, .null])), (q5, .inr (2, [.ref u9, .int 0])), (u9, .inl (cI, 28, .inl (fun _ => 0))), (q16, .inr (0, [.ref u20.1, .ref u20.2.1, .ref u20.2.2.1, .ref u20.2.2.2, .int 0])), (u20.1, .inl (cJ, 20, .inr (.inl (fun _ => 0)))), (u20.2.1, .inl (cI, 20, .inl (fun _ => 0))), (u20.2.2.1, .inl (cI, 20, .inl (fun _ => 0))), (u20.2.2.2, .inl (cI, 20, .inl (fun _ => 0))), (q27, .inr (1, [.ref u31.1, .ref u31.2.1, .ref u31.2.2.1, .ref u31.2.2.2.1, .ref u31.2.2.2.2, .int 0])), (u31.1, .inl (cI, 190, .inl (fun _ => 0))), (u31.2.1, .inl (cJ, 190, .inr (.inl (fun _ => 0)))), (u31.2.2.1, .inl (cJ, 190, .inr (.inl (fun _ => 0)))), (u31.2.2.2.1, .inl (cJ, 190, .inr (.inl (fun _ => 0)))), (u31.2.2.2.2, .inl (cI, 190, .inl (fun _ => 0))), (q38, .inr (3, [.ref u42.1, .ref u42.2, .int 0])), (u42.1, .inl (cI, 8, .inl (fun _ => 0))), (u42.2, .inl (cI, 8, .inl (fun _ => 0))), (q49, .inr (4, [.ref u53, .int 0])), (u53, .inl (cI, 16, .inl (fun _ => 0)))] H := hP
  have hD : va_D A [(h0, .inr (5, [.ref q5, .ref q16, .ref q27, .ref q38, .null])), (q5, .inr (2, [.ref u9, .int 0])), (u9, .inl (cI, 28, .inl (fun _ => 0))), (q16, .inr (0, [.ref u20.1, .ref u20.2.1, .ref u20.2.2.1, .ref u20.2.2.2, .int 0])), (u20.1, .inl (cJ, 20, .inr (.inl (fun _ => 0)))), (u20.2.1, .inl (cI, 20, .inl (fun _ => 0))), (u20.2.2.1, .inl (cI, 20, .inl (fun _ => 0))), (u20.2.2.2, .inl (cI, 20, .inl (fun _ => 0))), (q27, .inr (1, [.ref u31.1, .ref u31.2.1, .ref u31.2.2.1, .ref u31.2.2.2.1, .ref u31.2.2.2.2, .int 0])), (u31.1, .inl (cI, 190, .inl (fun _ => 0))), (u31.2.1, .inl (cJ, 190, .inr (.inl (fun _ => 0)))), (u31.2.2.1, .inl (cJ, 190, .inr (.inl (fun _ => 0)))), (u31.2.2.2.1, .inl (cJ, 190, .inr (.inl (fun _ => 0)))), (u31.2.2.2.2, .inl (cI, 190, .inl (fun _ => 0))), (q38, .inr (3, [.ref u42.1, .ref u42.2, .int 0])), (u42.1, .inl (cI, 8, .inl (fun _ => 0))), (u42.2, .inl (cI, 8, .inl (fun _ => 0))), (q49, .inr (4, [.ref u53, .int 0])), (u53, .inl (cI, 16, .inl (fun _ => 0)))] := hD
  refine W.widen (k := 18) (n := 1108) (by omega) (by omega) ?_
  refine va_putF (D := (dC, dI)) (ci := 5) (v := .ref q49) (ty := .object "AchromatDesk$PlateSet") (C := RX5) (T := TX5) (N := 5) hx hb hts (by decide +kernel) tyX5 tyX5_ok nmX5 hown hK hP hD hS 0 rfl rfl 4 (by decide) (hts (.fieldLink RX5 40 "AchromatDesk" "plates" "LAchromatDesk$PlateSet;") (by decide +kernel)) (fun _ h9 => h9) rfl hin rfl (by decide +kernel) rfl rfl (Nat.le_of_ble_eq_true rfl) dX5_init_56 (fun H locs hP hD hS => ?_)
  have hP : va_P (dC, dI) vwCl [(h0, .inr (5, [.ref q5, .ref q16, .ref q27, .ref q38, .ref q49])), (q5, .inr (2, [.ref u9, .int 0])), (u9, .inl (cI, 28, .inl (fun _ => 0))), (q16, .inr (0, [.ref u20.1, .ref u20.2.1, .ref u20.2.2.1, .ref u20.2.2.2, .int 0])), (u20.1, .inl (cJ, 20, .inr (.inl (fun _ => 0)))), (u20.2.1, .inl (cI, 20, .inl (fun _ => 0))), (u20.2.2.1, .inl (cI, 20, .inl (fun _ => 0))), (u20.2.2.2, .inl (cI, 20, .inl (fun _ => 0))), (q27, .inr (1, [.ref u31.1, .ref u31.2.1, .ref u31.2.2.1, .ref u31.2.2.2.1, .ref u31.2.2.2.2, .int 0])), (u31.1, .inl (cI, 190, .inl (fun _ => 0))), (u31.2.1, .inl (cJ, 190, .inr (.inl (fun _ => 0)))), (u31.2.2.1, .inl (cJ, 190, .inr (.inl (fun _ => 0)))), (u31.2.2.2.1, .inl (cJ, 190, .inr (.inl (fun _ => 0)))), (u31.2.2.2.2, .inl (cI, 190, .inl (fun _ => 0))), (q38, .inr (3, [.ref u42.1, .ref u42.2, .int 0])), (u42.1, .inl (cI, 8, .inl (fun _ => 0))), (u42.2, .inl (cI, 8, .inl (fun _ => 0))), (q49, .inr (4, [.ref u53, .int 0])), (u53, .inl (cI, 16, .inl (fun _ => 0)))] H := hP
  have hD : va_D A [(h0, .inr (5, [.ref q5, .ref q16, .ref q27, .ref q38, .ref q49])), (q5, .inr (2, [.ref u9, .int 0])), (u9, .inl (cI, 28, .inl (fun _ => 0))), (q16, .inr (0, [.ref u20.1, .ref u20.2.1, .ref u20.2.2.1, .ref u20.2.2.2, .int 0])), (u20.1, .inl (cJ, 20, .inr (.inl (fun _ => 0)))), (u20.2.1, .inl (cI, 20, .inl (fun _ => 0))), (u20.2.2.1, .inl (cI, 20, .inl (fun _ => 0))), (u20.2.2.2, .inl (cI, 20, .inl (fun _ => 0))), (q27, .inr (1, [.ref u31.1, .ref u31.2.1, .ref u31.2.2.1, .ref u31.2.2.2.1, .ref u31.2.2.2.2, .int 0])), (u31.1, .inl (cI, 190, .inl (fun _ => 0))), (u31.2.1, .inl (cJ, 190, .inr (.inl (fun _ => 0)))), (u31.2.2.1, .inl (cJ, 190, .inr (.inl (fun _ => 0)))), (u31.2.2.2.1, .inl (cJ, 190, .inr (.inl (fun _ => 0)))), (u31.2.2.2.2, .inl (cI, 190, .inl (fun _ => 0))), (q38, .inr (3, [.ref u42.1, .ref u42.2, .int 0])), (u42.1, .inl (cI, 8, .inl (fun _ => 0))), (u42.2, .inl (cI, 8, .inl (fun _ => 0))), (q49, .inr (4, [.ref u53, .int 0])), (u53, .inl (cI, 16, .inl (fun _ => 0)))] := hD
  exact W.vret hx hb hr (fun t ht hW => ⟨⟨(fun k0 : Nat => match k0 with | 0 => h0 | 1 => q5 | 2 => u9 | 3 => q16 | 4 => u20.1 | 5 => u20.2.1 | 6 => u20.2.2.1 | 7 => u20.2.2.2 | 8 => q27 | 9 => u31.1 | 10 => u31.2.1 | 11 => u31.2.2.1 | 12 => u31.2.2.2.1 | 13 => u31.2.2.2.2 | 14 => q38 | 15 => u42.1 | 16 => u42.2 | 17 => q49 | _ => u53), rfl, rfl, by rw [ht]; exact hP, by rw [hAe]; exact hD⟩, hS.F ht⟩) hS.2.2 dX5_init_59

set_option maxHeartbeats 4000000 in
set_option maxRecDepth 100000 in
theorem c_X6_init (l : Launch) (dC : Nat → ClassId) (dI : Nat → Nat → Nat) (cI cJ : ClassId) (sz : Nat) (h0 : Nat) : Met l yX6_init wsX6_init ({ frames := 1, cells := 8, slots := 146, locals := 20 }) (va_Pc [.ref h0] (MU (dC, dI) (tyK cI cJ) ([(h0, .inr (6, [.int 0, .null, .int 0, .null, .null, .int 0, .null, .null, .int 0, .null, .long 0, .null, .int 0, .int 0, .int 0, .int 0, .null, .long 0]))]) sz)) (va_Qv (fun (u : Nat → Nat) => u 0 = h0) (MB (dC, dI) ([(h0, .inr (6, [.int 0, .null, .int 0, .null, .null, .int 0, .null, .null, .int 0, .null, .long 0, .null, .int 0, .int 0, .int 0, .int 0, .null, .long 0]))]) sz (fun (u : Nat → Nat) => [(u 0, .inr (6, [.int (nI 0), .ref (u 1), .int (nI 0), .ref (u 2), .ref (u 3), .int (nI 0), .ref (u 4), .ref (u 5), .int (nI 0), .ref (u 6), .long 0, .ref (u 7), .int 0, .int 0, .int 0, .int 0, .ref (u 8), .long 0])), (u 1, .inl (cI, 28, .inl (fun _ => 0))), (u 2, .inl (cJ, 20, .inr (.inl (gK G0)))), (u 3, .inl (cI, 60, .inl (ilv G0))), (u 4, .inl (cI, 8, .inl (fun _ => 0))), (u 5, .inl (cI, 8, .inl (fun _ => 0))), (u 6, .inl (cI, 16, .inl (fun _ => 0))), (u 7, .inl (cI, 3, .inl (fun _ => 0))), (u 8, .inl (cJ, 3, .inr (.inl (fun _ => 0))))])) (va_A ([(h0, .inr (6, [.int 0, .null, .int 0, .null, .null, .int 0, .null, .null, .int 0, .null, .long 0, .null, .int 0, .int 0, .int 0, .int 0, .null, .long 0]))]) sz)) 8 146 (va_A ([(h0, .inr (6, [.int 0, .null, .int 0, .null, .null, .int 0, .null, .null, .int 0, .null, .long 0, .null, .int 0, .int 0, .int 0, .int 0, .null, .long 0]))]) sz) := by
  refine Met.ofW (cc := cX6_init) (maxL := 1) (ret := none) (by decide) rfl ?_
  intro p e s m args below meth c s₁ B hml hv
  obtain ⟨rfl, hsz, hP, hK, hN, hD0⟩ := hv
  have hx := B.exec
  have hb := B.bytes
  have hr := B.returns
  have hts := atoms_spec (ws := wsX6_init) B.pre
  have hown : s.vm.findClass RX6 = some m.cls := findClass_of_methodNamed B.named
  have hlocks := B.notSynchronized
  have hin : meth.name = "<init>" := (name_of_methodNamed B.named B.method).1
  subst hsz
  have hD := hD0.self (sz := s.heap.size)
  generalize hAe : va_A ([(h0, .inr (6, [.int 0, .null, .int 0, .null, .null, .int 0, .null, .null, .int 0, .null, .long 0, .null, .int 0, .int 0, .int 0, .int 0, .null, .long 0]))]) s.heap.size = A at hD ⊢
  have hA : ∀ q : Nat, s.heap.size ≤ q → A q := fun q h => by rw [← hAe]; exact Or.inr h
  have hS : va_S A s.heap s.heap [] := va_S.rf
  have hP : va_P (dC, dI) vwCl [(h0, .inr (6, [.int 0, .null, .int 0, .null, .null, .int 0, .null, .null, .int 0, .null, .long 0, .null, .int 0, .int 0, .int 0, .int 0, .null, .long 0]))] s.heap := hP
  have hD : va_D A [(h0, .inr (6, [.int 0, .null, .int 0, .null, .null, .int 0, .null, .null, .int 0, .null, .long 0, .null, .int 0, .int 0, .int 0, .int 0, .null, .long 0]))] := hD
  obtain ⟨H, hH⟩ : ∃ H : Heap, H = s.heap := ⟨_, rfl⟩
  obtain ⟨locs, hlc⟩ : ∃ locs : List Loc, locs = [] := ⟨_, rfl⟩
  have hl := lv_entry ([.ref h0]) (n := 1) (Nat.le_of_ble_eq_true rfl)
  rw [lg_entry_eq]
  generalize (lg_sl ([.ref h0]) ++ List.replicate (1 - (lg_sl ([.ref h0])).length) Slot.unset).toArray = ls at hl ⊢
  have hl : lv_has ls 1 [(0, .ref h0)] := hl
  refine mu_in hH hlc (fun hS hP hD => ?_) hS hP hD
  clear hH hlc
  refine lv_aload_n hx hb dX6_init_0 rfl (lv_at hl 0 rfl) ?_
  refine W.objInit hx hb hown (hts (.methodLink RX6 1 objectInit) (by decide +kernel)) (hts (.instanceMethod objectInit) (by decide +kernel)) (hts (.code objectInit ⟨#[0xb1]⟩ 1 none) (by decide +kernel)) rfl (by rw [hml]; exact hl.1) rfl dX6_init_1 (Nat.le_of_ble_eq_true rfl) (Nat.le_of_ble_eq_true rfl) ?_
  refine W.eq (g2 := F0 m 4 ls []) rfl ?_
  refine lv_aload_n hx hb dX6_init_4 rfl (lv_at hl 0 rfl) ?_
  refine lv_bipush (v := 28) hx hb dX6_init_5 (by decide) ?_
  refine nw_i hx hb (hts (.arrayClass .int) (by decide +kernel)) hK hP hD hS hA (N := 28) (by decide) (by decide) (by decide) (Nat.le_of_ble_eq_true rfl) (Nat.le_of_ble_eq_true rfl) dX6_init_7 (fun q7 H hP hD hS => ?_)
  have hP : va_P (dC, dI) vwCl [(h0, .inr (6, [.int 0, .null, .int 0, .null, .null, .int 0, .null, .null, .int 0, .null, .long 0, .null, .int 0, .int 0, .int 0, .int 0, .null, .long 0])), (q7, .inl (cI, 28, .inl (fun _ => 0)))] H := hP
  have hD : va_D A [(h0, .inr (6, [.int 0, .null, .int 0, .null, .null, .int 0, .null, .null, .int 0, .null, .long 0, .null, .int 0, .int 0, .int 0, .int 0, .null, .long 0])), (q7, .inl (cI, 28, .inl (fun _ => 0)))] := hD
  refine W.widen (k := 1) (n := 28) (by omega) (by omega) ?_
  refine va_putF (D := (dC, dI)) (ci := 6) (v := .ref q7) (ty := .array .int) (C := RX6) (T := TX6) (N := 18) hx hb hts (by decide +kernel) tyX6 tyX6_ok nmX6 hown hK hP hD hS 0 rfl rfl 1 (by decide) (hts (.fieldLink RX6 7 "AchromatDeskModel" "buffer" "[I") (by decide +kernel)) (fun _ h9 => h9) rfl hin rfl (by decide +kernel) rfl rfl (Nat.le_of_ble_eq_true rfl) dX6_init_9 (fun H locs hP hD hS => ?_)
  have hP : va_P (dC, dI) vwCl [(h0, .inr (6, [.int 0, .ref q7, .int 0, .null, .null, .int 0, .null, .null, .int 0, .null, .long 0, .null, .int 0, .int 0, .int 0, .int 0, .null, .long 0])), (q7, .inl (cI, 28, .inl (fun _ => 0)))] H := hP
  have hD : va_D A [(h0, .inr (6, [.int 0, .ref q7, .int 0, .null, .null, .int 0, .null, .null, .int 0, .null, .long 0, .null, .int 0, .int 0, .int 0, .int 0, .null, .long 0])), (q7, .inl (cI, 28, .inl (fun _ => 0)))] := hD
  refine lv_aload_n hx hb dX6_init_12 rfl (lv_at hl 0 rfl) ?_
  refine lv_bipush (v := 20) hx hb dX6_init_13 (by decide) ?_
  refine nw_l hx hb (hts (.arrayClass .long) (by decide +kernel)) hK hP hD hS hA (N := 20) (by decide) (by decide) (by decide) (Nat.le_of_ble_eq_true rfl) (Nat.le_of_ble_eq_true rfl) dX6_init_15 (fun q15 H hP hD hS => ?_)
  have hP : va_P (dC, dI) vwCl [(h0, .inr (6, [.int 0, .ref q7, .int 0, .null, .null, .int 0, .null, .null, .int 0, .null, .long 0, .null, .int 0, .int 0, .int 0, .int 0, .null, .long 0])), (q7, .inl (cI, 28, .inl (fun _ => 0))), (q15, .inl (cJ, 20, .inr (.inl (fun _ => 0))))] H := hP
  have hD : va_D A [(h0, .inr (6, [.int 0, .ref q7, .int 0, .null, .null, .int 0, .null, .null, .int 0, .null, .long 0, .null, .int 0, .int 0, .int 0, .int 0, .null, .long 0])), (q7, .inl (cI, 28, .inl (fun _ => 0))), (q15, .inl (cJ, 20, .inr (.inl (fun _ => 0))))] := hD
  refine W.widen (k := 2) (n := 48) (by omega) (by omega) ?_
  refine va_putF (D := (dC, dI)) (ci := 6) (v := .ref q15) (ty := .array .long) (C := RX6) (T := TX6) (N := 18) hx hb hts (by decide +kernel) tyX6 tyX6_ok nmX6 hown hK hP hD hS 0 rfl rfl 3 (by decide) (hts (.fieldLink RX6 13 "AchromatDeskModel" "name" "[J") (by decide +kernel)) (fun _ h9 => h9) rfl hin rfl (by decide +kernel) rfl rfl (Nat.le_of_ble_eq_true rfl) dX6_init_17 (fun H locs hP hD hS => ?_)
  have hP : va_P (dC, dI) vwCl [(h0, .inr (6, [.int 0, .ref q7, .int 0, .ref q15, .null, .int 0, .null, .null, .int 0, .null, .long 0, .null, .int 0, .int 0, .int 0, .int 0, .null, .long 0])), (q7, .inl (cI, 28, .inl (fun _ => 0))), (q15, .inl (cJ, 20, .inr (.inl (fun _ => 0))))] H := hP
  have hD : va_D A [(h0, .inr (6, [.int 0, .ref q7, .int 0, .ref q15, .null, .int 0, .null, .null, .int 0, .null, .long 0, .null, .int 0, .int 0, .int 0, .int 0, .null, .long 0])), (q7, .inl (cI, 28, .inl (fun _ => 0))), (q15, .inl (cJ, 20, .inr (.inl (fun _ => 0))))] := hD
  refine lv_aload_n hx hb dX6_init_20 rfl (lv_at hl 0 rfl) ?_
  refine lv_bipush (v := 60) hx hb dX6_init_21 (by decide) ?_
  refine nw_i hx hb (hts (.arrayClass .int) (by decide +kernel)) hK hP hD hS hA (N := 60) (by decide) (by decide) (by decide) (Nat.le_of_ble_eq_true rfl) (Nat.le_of_ble_eq_true rfl) dX6_init_23 (fun q23 H hP hD hS => ?_)
  have hP : va_P (dC, dI) vwCl [(h0, .inr (6, [.int 0, .ref q7, .int 0, .ref q15, .null, .int 0, .null, .null, .int 0, .null, .long 0, .null, .int 0, .int 0, .int 0, .int 0, .null, .long 0])), (q7, .inl (cI, 28, .inl (fun _ => 0))), (q15, .inl (cJ, 20, .inr (.inl (fun _ => 0)))), (q23, .inl (cI, 60, .inl (fun _ => 0)))] H := hP
  have hD : va_D A [(h0, .inr (6, [.int 0, .ref q7, .int 0, .ref q15, .null, .int 0, .null, .null, .int 0, .null, .long 0, .null, .int 0, .int 0, .int 0, .int 0, .null, .long 0])), (q7, .inl (cI, 28, .inl (fun _ => 0))), (q15, .inl (cJ, 20, .inr (.inl (fun _ => 0)))), (q23, .inl (cI, 60, .inl (fun _ => 0)))] := hD
  refine W.widen (k := 3) (n := 108) (by omega) (by omega) ?_
  refine va_putF (D := (dC, dI)) (ci := 6) (v := .ref q23) (ty := .array .int) (C := RX6) (T := TX6) (N := 18) hx hb hts (by decide +kernel) tyX6 tyX6_ok nmX6 hown hK hP hD hS 0 rfl rfl 4 (by decide) (hts (.fieldLink RX6 17 "AchromatDeskModel" "indices" "[I") (by decide +kernel)) (fun _ h9 => h9) rfl hin rfl (by decide +kernel) rfl rfl (Nat.le_of_ble_eq_true rfl) dX6_init_25 (fun H locs hP hD hS => ?_)
  have hP : va_P (dC, dI) vwCl [(h0, .inr (6, [.int 0, .ref q7, .int 0, .ref q15, .ref q23, .int 0, .null, .null, .int 0, .null, .long 0, .null, .int 0, .int 0, .int 0, .int 0, .null, .long 0])), (q7, .inl (cI, 28, .inl (fun _ => 0))), (q15, .inl (cJ, 20, .inr (.inl (fun _ => 0)))), (q23, .inl (cI, 60, .inl (fun _ => 0)))] H := hP
  have hD : va_D A [(h0, .inr (6, [.int 0, .ref q7, .int 0, .ref q15, .ref q23, .int 0, .null, .null, .int 0, .null, .long 0, .null, .int 0, .int 0, .int 0, .int 0, .null, .long 0])), (q7, .inl (cI, 28, .inl (fun _ => 0))), (q15, .inl (cJ, 20, .inr (.inl (fun _ => 0)))), (q23, .inl (cI, 60, .inl (fun _ => 0)))] := hD
  refine lv_aload_n hx hb dX6_init_28 rfl (lv_at hl 0 rfl) ?_
  refine lv_bipush (v := 8) hx hb dX6_init_29 (by decide) ?_
  refine nw_i hx hb (hts (.arrayClass .int) (by decide +kernel)) hK hP hD hS hA (N := 8) (by decide) (by decide) (by decide) (Nat.le_of_ble_eq_true rfl) (Nat.le_of_ble_eq_true rfl) dX6_init_31 (fun q31 H hP hD hS => ?_)
  have hP : va_P (dC, dI) vwCl [(h0, .inr (6, [.int 0, .ref q7, .int 0, .ref q15, .ref q23, .int 0, .null, .null, .int 0, .null, .long 0, .null, .int 0, .int 0, .int 0, .int 0, .null, .long 0])), (q7, .inl (cI, 28, .inl (fun _ => 0))), (q15, .inl (cJ, 20, .inr (.inl (fun _ => 0)))), (q23, .inl (cI, 60, .inl (fun _ => 0))), (q31, .inl (cI, 8, .inl (fun _ => 0)))] H := hP
  have hD : va_D A [(h0, .inr (6, [.int 0, .ref q7, .int 0, .ref q15, .ref q23, .int 0, .null, .null, .int 0, .null, .long 0, .null, .int 0, .int 0, .int 0, .int 0, .null, .long 0])), (q7, .inl (cI, 28, .inl (fun _ => 0))), (q15, .inl (cJ, 20, .inr (.inl (fun _ => 0)))), (q23, .inl (cI, 60, .inl (fun _ => 0))), (q31, .inl (cI, 8, .inl (fun _ => 0)))] := hD
  refine W.widen (k := 4) (n := 116) (by omega) (by omega) ?_
  refine va_putF (D := (dC, dI)) (ci := 6) (v := .ref q31) (ty := .array .int) (C := RX6) (T := TX6) (N := 18) hx hb hts (by decide +kernel) tyX6 tyX6_ok nmX6 hown hK hP hD hS 0 rfl rfl 6 (by decide) (hts (.fieldLink RX6 20 "AchromatDeskModel" "glassOf" "[I") (by decide +kernel)) (fun _ h9 => h9) rfl hin rfl (by decide +kernel) rfl rfl (Nat.le_of_ble_eq_true rfl) dX6_init_33 (fun H locs hP hD hS => ?_)
  have hP : va_P (dC, dI) vwCl [(h0, .inr (6, [.int 0, .ref q7, .int 0, .ref q15, .ref q23, .int 0, .ref q31, .null, .int 0, .null, .long 0, .null, .int 0, .int 0, .int 0, .int 0, .null, .long 0])), (q7, .inl (cI, 28, .inl (fun _ => 0))), (q15, .inl (cJ, 20, .inr (.inl (fun _ => 0)))), (q23, .inl (cI, 60, .inl (fun _ => 0))), (q31, .inl (cI, 8, .inl (fun _ => 0)))] H := hP
  have hD : va_D A [(h0, .inr (6, [.int 0, .ref q7, .int 0, .ref q15, .ref q23, .int 0, .ref q31, .null, .int 0, .null, .long 0, .null, .int 0, .int 0, .int 0, .int 0, .null, .long 0])), (q7, .inl (cI, 28, .inl (fun _ => 0))), (q15, .inl (cJ, 20, .inr (.inl (fun _ => 0)))), (q23, .inl (cI, 60, .inl (fun _ => 0))), (q31, .inl (cI, 8, .inl (fun _ => 0)))] := hD
  refine lv_aload_n hx hb dX6_init_36 rfl (lv_at hl 0 rfl) ?_
  refine lv_bipush (v := 8) hx hb dX6_init_37 (by decide) ?_
  refine nw_i hx hb (hts (.arrayClass .int) (by decide +kernel)) hK hP hD hS hA (N := 8) (by decide) (by decide) (by decide) (Nat.le_of_ble_eq_true rfl) (Nat.le_of_ble_eq_true rfl) dX6_init_39 (fun q39 H hP hD hS => ?_)
  have hP : va_P (dC, dI) vwCl [(h0, .inr (6, [.int 0, .ref q7, .int 0, .ref q15, .ref q23, .int 0, .ref q31, .null, .int 0, .null, .long 0, .null, .int 0, .int 0, .int 0, .int 0, .null, .long 0])), (q7, .inl (cI, 28, .inl (fun _ => 0))), (q15, .inl (cJ, 20, .inr (.inl (fun _ => 0)))), (q23, .inl (cI, 60, .inl (fun _ => 0))), (q31, .inl (cI, 8, .inl (fun _ => 0))), (q39, .inl (cI, 8, .inl (fun _ => 0)))] H := hP
  have hD : va_D A [(h0, .inr (6, [.int 0, .ref q7, .int 0, .ref q15, .ref q23, .int 0, .ref q31, .null, .int 0, .null, .long 0, .null, .int 0, .int 0, .int 0, .int 0, .null, .long 0])), (q7, .inl (cI, 28, .inl (fun _ => 0))), (q15, .inl (cJ, 20, .inr (.inl (fun _ => 0)))), (q23, .inl (cI, 60, .inl (fun _ => 0))), (q31, .inl (cI, 8, .inl (fun _ => 0))), (q39, .inl (cI, 8, .inl (fun _ => 0)))] := hD
  refine W.widen (k := 5) (n := 124) (by omega) (by omega) ?_
  refine va_putF (D := (dC, dI)) (ci := 6) (v := .ref q39) (ty := .array .int) (C := RX6) (T := TX6) (N := 18) hx hb hts (by decide +kernel) tyX6 tyX6_ok nmX6 hown hK hP hD hS 0 rfl rfl 7 (by decide) (hts (.fieldLink RX6 23 "AchromatDeskModel" "powerOf" "[I") (by decide +kernel)) (fun _ h9 => h9) rfl hin rfl (by decide +kernel) rfl rfl (Nat.le_of_ble_eq_true rfl) dX6_init_41 (fun H locs hP hD hS => ?_)
  have hP : va_P (dC, dI) vwCl [(h0, .inr (6, [.int 0, .ref q7, .int 0, .ref q15, .ref q23, .int 0, .ref q31, .ref q39, .int 0, .null, .long 0, .null, .int 0, .int 0, .int 0, .int 0, .null, .long 0])), (q7, .inl (cI, 28, .inl (fun _ => 0))), (q15, .inl (cJ, 20, .inr (.inl (fun _ => 0)))), (q23, .inl (cI, 60, .inl (fun _ => 0))), (q31, .inl (cI, 8, .inl (fun _ => 0))), (q39, .inl (cI, 8, .inl (fun _ => 0)))] H := hP
  have hD : va_D A [(h0, .inr (6, [.int 0, .ref q7, .int 0, .ref q15, .ref q23, .int 0, .ref q31, .ref q39, .int 0, .null, .long 0, .null, .int 0, .int 0, .int 0, .int 0, .null, .long 0])), (q7, .inl (cI, 28, .inl (fun _ => 0))), (q15, .inl (cJ, 20, .inr (.inl (fun _ => 0)))), (q23, .inl (cI, 60, .inl (fun _ => 0))), (q31, .inl (cI, 8, .inl (fun _ => 0))), (q39, .inl (cI, 8, .inl (fun _ => 0)))] := hD
  refine lv_aload_n hx hb dX6_init_44 rfl (lv_at hl 0 rfl) ?_
  refine lv_bipush (v := 16) hx hb dX6_init_45 (by decide) ?_
  refine nw_i hx hb (hts (.arrayClass .int) (by decide +kernel)) hK hP hD hS hA (N := 16) (by decide) (by decide) (by decide) (Nat.le_of_ble_eq_true rfl) (Nat.le_of_ble_eq_true rfl) dX6_init_47 (fun q47 H hP hD hS => ?_)
  have hP : va_P (dC, dI) vwCl [(h0, .inr (6, [.int 0, .ref q7, .int 0, .ref q15, .ref q23, .int 0, .ref q31, .ref q39, .int 0, .null, .long 0, .null, .int 0, .int 0, .int 0, .int 0, .null, .long 0])), (q7, .inl (cI, 28, .inl (fun _ => 0))), (q15, .inl (cJ, 20, .inr (.inl (fun _ => 0)))), (q23, .inl (cI, 60, .inl (fun _ => 0))), (q31, .inl (cI, 8, .inl (fun _ => 0))), (q39, .inl (cI, 8, .inl (fun _ => 0))), (q47, .inl (cI, 16, .inl (fun _ => 0)))] H := hP
  have hD : va_D A [(h0, .inr (6, [.int 0, .ref q7, .int 0, .ref q15, .ref q23, .int 0, .ref q31, .ref q39, .int 0, .null, .long 0, .null, .int 0, .int 0, .int 0, .int 0, .null, .long 0])), (q7, .inl (cI, 28, .inl (fun _ => 0))), (q15, .inl (cJ, 20, .inr (.inl (fun _ => 0)))), (q23, .inl (cI, 60, .inl (fun _ => 0))), (q31, .inl (cI, 8, .inl (fun _ => 0))), (q39, .inl (cI, 8, .inl (fun _ => 0))), (q47, .inl (cI, 16, .inl (fun _ => 0)))] := hD
  refine W.widen (k := 6) (n := 140) (by omega) (by omega) ?_
  refine va_putF (D := (dC, dI)) (ci := 6) (v := .ref q47) (ty := .array .int) (C := RX6) (T := TX6) (N := 18) hx hb hts (by decide +kernel) tyX6 tyX6_ok nmX6 hown hK hP hD hS 0 rfl rfl 9 (by decide) (hts (.fieldLink RX6 26 "AchromatDeskModel" "radius" "[I") (by decide +kernel)) (fun _ h9 => h9) rfl hin rfl (by decide +kernel) rfl rfl (Nat.le_of_ble_eq_true rfl) dX6_init_49 (fun H locs hP hD hS => ?_)
  have hP : va_P (dC, dI) vwCl [(h0, .inr (6, [.int 0, .ref q7, .int 0, .ref q15, .ref q23, .int 0, .ref q31, .ref q39, .int 0, .ref q47, .long 0, .null, .int 0, .int 0, .int 0, .int 0, .null, .long 0])), (q7, .inl (cI, 28, .inl (fun _ => 0))), (q15, .inl (cJ, 20, .inr (.inl (fun _ => 0)))), (q23, .inl (cI, 60, .inl (fun _ => 0))), (q31, .inl (cI, 8, .inl (fun _ => 0))), (q39, .inl (cI, 8, .inl (fun _ => 0))), (q47, .inl (cI, 16, .inl (fun _ => 0)))] H := hP
  have hD : va_D A [(h0, .inr (6, [.int 0, .ref q7, .int 0, .ref q15, .ref q23, .int 0, .ref q31, .ref q39, .int 0, .ref q47, .long 0, .null, .int 0, .int 0, .int 0, .int 0, .null, .long 0])), (q7, .inl (cI, 28, .inl (fun _ => 0))), (q15, .inl (cJ, 20, .inr (.inl (fun _ => 0)))), (q23, .inl (cI, 60, .inl (fun _ => 0))), (q31, .inl (cI, 8, .inl (fun _ => 0))), (q39, .inl (cI, 8, .inl (fun _ => 0))), (q47, .inl (cI, 16, .inl (fun _ => 0)))] := hD
  refine lv_aload_n hx hb dX6_init_52 rfl (lv_at hl 0 rfl) ?_
  refine lv_iconst (v := 3) hx hb dX6_init_53 (by decide) ?_
  refine nw_i hx hb (hts (.arrayClass .int) (by decide +kernel)) hK hP hD hS hA (N := 3) (by decide) (by decide) (by decide) (Nat.le_of_ble_eq_true rfl) (Nat.le_of_ble_eq_true rfl) dX6_init_54 (fun q54 H hP hD hS => ?_)
  have hP : va_P (dC, dI) vwCl [(h0, .inr (6, [.int 0, .ref q7, .int 0, .ref q15, .ref q23, .int 0, .ref q31, .ref q39, .int 0, .ref q47, .long 0, .null, .int 0, .int 0, .int 0, .int 0, .null, .long 0])), (q7, .inl (cI, 28, .inl (fun _ => 0))), (q15, .inl (cJ, 20, .inr (.inl (fun _ => 0)))), (q23, .inl (cI, 60, .inl (fun _ => 0))), (q31, .inl (cI, 8, .inl (fun _ => 0))), (q39, .inl (cI, 8, .inl (fun _ => 0))), (q47, .inl (cI, 16, .inl (fun _ => 0))), (q54, .inl (cI, 3, .inl (fun _ => 0)))] H := hP
  have hD : va_D A [(h0, .inr (6, [.int 0, .ref q7, .int 0, .ref q15, .ref q23, .int 0, .ref q31, .ref q39, .int 0, .ref q47, .long 0, .null, .int 0, .int 0, .int 0, .int 0, .null, .long 0])), (q7, .inl (cI, 28, .inl (fun _ => 0))), (q15, .inl (cJ, 20, .inr (.inl (fun _ => 0)))), (q23, .inl (cI, 60, .inl (fun _ => 0))), (q31, .inl (cI, 8, .inl (fun _ => 0))), (q39, .inl (cI, 8, .inl (fun _ => 0))), (q47, .inl (cI, 16, .inl (fun _ => 0))), (q54, .inl (cI, 3, .inl (fun _ => 0)))] := hD
  refine W.widen (k := 7) (n := 143) (by omega) (by omega) ?_
  refine va_putF (D := (dC, dI)) (ci := 6) (v := .ref q54) (ty := .array .int) (C := RX6) (T := TX6) (N := 18) hx hb hts (by decide +kernel) tyX6 tyX6_ok nmX6 hown hK hP hD hS 0 rfl rfl 11 (by decide) (hts (.fieldLink RX6 29 "AchromatDeskModel" "readNumber" "[I") (by decide +kernel)) (fun _ h9 => h9) rfl hin rfl (by decide +kernel) rfl rfl (Nat.le_of_ble_eq_true rfl) dX6_init_56 (fun H locs hP hD hS => ?_)
  have hP : va_P (dC, dI) vwCl [(h0, .inr (6, [.int 0, .ref q7, .int 0, .ref q15, .ref q23, .int 0, .ref q31, .ref q39, .int 0, .ref q47, .long 0, .ref q54, .int 0, .int 0, .int 0, .int 0, .null, .long 0])), (q7, .inl (cI, 28, .inl (fun _ => 0))), (q15, .inl (cJ, 20, .inr (.inl (fun _ => 0)))), (q23, .inl (cI, 60, .inl (fun _ => 0))), (q31, .inl (cI, 8, .inl (fun _ => 0))), (q39, .inl (cI, 8, .inl (fun _ => 0))), (q47, .inl (cI, 16, .inl (fun _ => 0))), (q54, .inl (cI, 3, .inl (fun _ => 0)))] H := hP
  have hD : va_D A [(h0, .inr (6, [.int 0, .ref q7, .int 0, .ref q15, .ref q23, .int 0, .ref q31, .ref q39, .int 0, .ref q47, .long 0, .ref q54, .int 0, .int 0, .int 0, .int 0, .null, .long 0])), (q7, .inl (cI, 28, .inl (fun _ => 0))), (q15, .inl (cJ, 20, .inr (.inl (fun _ => 0)))), (q23, .inl (cI, 60, .inl (fun _ => 0))), (q31, .inl (cI, 8, .inl (fun _ => 0))), (q39, .inl (cI, 8, .inl (fun _ => 0))), (q47, .inl (cI, 16, .inl (fun _ => 0))), (q54, .inl (cI, 3, .inl (fun _ => 0)))] := hD
  refine lv_aload_n hx hb dX6_init_59 rfl (lv_at hl 0 rfl) ?_
  refine lv_iconst (v := 3) hx hb dX6_init_60 (by decide) ?_
  refine nw_l hx hb (hts (.arrayClass .long) (by decide +kernel)) hK hP hD hS hA (N := 3) (by decide) (by decide) (by decide) (Nat.le_of_ble_eq_true rfl) (Nat.le_of_ble_eq_true rfl) dX6_init_61 (fun q61 H hP hD hS => ?_)
  have hP : va_P (dC, dI) vwCl [(h0, .inr (6, [.int 0, .ref q7, .int 0, .ref q15, .ref q23, .int 0, .ref q31, .ref q39, .int 0, .ref q47, .long 0, .ref q54, .int 0, .int 0, .int 0, .int 0, .null, .long 0])), (q7, .inl (cI, 28, .inl (fun _ => 0))), (q15, .inl (cJ, 20, .inr (.inl (fun _ => 0)))), (q23, .inl (cI, 60, .inl (fun _ => 0))), (q31, .inl (cI, 8, .inl (fun _ => 0))), (q39, .inl (cI, 8, .inl (fun _ => 0))), (q47, .inl (cI, 16, .inl (fun _ => 0))), (q54, .inl (cI, 3, .inl (fun _ => 0))), (q61, .inl (cJ, 3, .inr (.inl (fun _ => 0))))] H := hP
  have hD : va_D A [(h0, .inr (6, [.int 0, .ref q7, .int 0, .ref q15, .ref q23, .int 0, .ref q31, .ref q39, .int 0, .ref q47, .long 0, .ref q54, .int 0, .int 0, .int 0, .int 0, .null, .long 0])), (q7, .inl (cI, 28, .inl (fun _ => 0))), (q15, .inl (cJ, 20, .inr (.inl (fun _ => 0)))), (q23, .inl (cI, 60, .inl (fun _ => 0))), (q31, .inl (cI, 8, .inl (fun _ => 0))), (q39, .inl (cI, 8, .inl (fun _ => 0))), (q47, .inl (cI, 16, .inl (fun _ => 0))), (q54, .inl (cI, 3, .inl (fun _ => 0))), (q61, .inl (cJ, 3, .inr (.inl (fun _ => 0))))] := hD
  refine W.widen (k := 8) (n := 146) (by omega) (by omega) ?_
  refine va_putF (D := (dC, dI)) (ci := 6) (v := .ref q61) (ty := .array .long) (C := RX6) (T := TX6) (N := 18) hx hb hts (by decide +kernel) tyX6 tyX6_ok nmX6 hown hK hP hD hS 0 rfl rfl 16 (by decide) (hts (.fieldLink RX6 32 "AchromatDeskModel" "measured" "[J") (by decide +kernel)) (fun _ h9 => h9) rfl hin rfl (by decide +kernel) rfl rfl (Nat.le_of_ble_eq_true rfl) dX6_init_63 (fun H locs hP hD hS => ?_)
  have hP : va_P (dC, dI) vwCl [(h0, .inr (6, [.int 0, .ref q7, .int 0, .ref q15, .ref q23, .int 0, .ref q31, .ref q39, .int 0, .ref q47, .long 0, .ref q54, .int 0, .int 0, .int 0, .int 0, .ref q61, .long 0])), (q7, .inl (cI, 28, .inl (fun _ => 0))), (q15, .inl (cJ, 20, .inr (.inl (fun _ => 0)))), (q23, .inl (cI, 60, .inl (fun _ => 0))), (q31, .inl (cI, 8, .inl (fun _ => 0))), (q39, .inl (cI, 8, .inl (fun _ => 0))), (q47, .inl (cI, 16, .inl (fun _ => 0))), (q54, .inl (cI, 3, .inl (fun _ => 0))), (q61, .inl (cJ, 3, .inr (.inl (fun _ => 0))))] H := hP
  have hD : va_D A [(h0, .inr (6, [.int 0, .ref q7, .int 0, .ref q15, .ref q23, .int 0, .ref q31, .ref q39, .int 0, .ref q47, .long 0, .ref q54, .int 0, .int 0, .int 0, .int 0, .ref q61, .long 0])), (q7, .inl (cI, 28, .inl (fun _ => 0))), (q15, .inl (cJ, 20, .inr (.inl (fun _ => 0)))), (q23, .inl (cI, 60, .inl (fun _ => 0))), (q31, .inl (cI, 8, .inl (fun _ => 0))), (q39, .inl (cI, 8, .inl (fun _ => 0))), (q47, .inl (cI, 16, .inl (fun _ => 0))), (q54, .inl (cI, 3, .inl (fun _ => 0))), (q61, .inl (cJ, 3, .inr (.inl (fun _ => 0))))] := hD
  exact W.vret hx hb hr (fun t ht hW => ⟨⟨(fun k0 : Nat => match k0 with | 0 => h0 | 1 => q7 | 2 => q15 | 3 => q23 | 4 => q31 | 5 => q39 | 6 => q47 | 7 => q54 | _ => q61), rfl, rfl, by rw [ht]; exact (by rw [ilv_00]; exact hP), by rw [hAe]; exact (by rw [ilv_00]; exact hD)⟩, hS.F ht⟩) hS.2.2 dX6_init_66
