set_option maxHeartbeats 4000000 in
set_option maxRecDepth 100000 in
theorem c_X2_add (l : Launch) (dC : Nat → ClassId) (dI : Nat → Nat → Nat) (cI cJ : ClassId) (sz : Nat) (q : Nat → Nat) (bf : Nat → Int32) (ln : Nat) (hln : ln ≤ 28) (h28 : ln < 28) (x : Int32) : Met l yX2_add wsX2_add ({ frames := 0, cells := 0, slots := 0, locals := 0 }) (va_Pc [.ref (q 1), .int x] (MU (dC, dI) (tyK cI cJ) ([(q 1, .inr (2, [.ref (q 2), .int (nI ln)])), (q 2, .inl (cI, 28, .inl bf))]) sz)) (va_Qv (fun _ => True) (MB (dC, dI) ([(q 1, .inr (2, [.ref (q 2), .int (nI ln)])), (q 2, .inl (cI, 28, .inl bf))]) sz (fun (_ : Unit) => [(q 1, .inr (2, [.ref (q 2), .int (nI (ln + 1))])), (q 2, .inl (cI, 28, .inl (upd bf ln x)))])) (va_A ([(q 1, .inr (2, [.ref (q 2), .int (nI ln)])), (q 2, .inl (cI, 28, .inl bf))]) sz)) 0 0 (va_A ([(q 1, .inr (2, [.ref (q 2), .int (nI ln)])), (q 2, .inl (cI, 28, .inl bf))]) sz) := by
  refine Met.ofW (cc := cX2_add) (maxL := 2) (ret := none) (by decide) rfl ?_
  intro p e s m args below meth c s₁ B hml hv
  obtain ⟨rfl, hsz, hP, hK, hN, hD0⟩ := hv
  have hx := B.exec
  have hb := B.bytes
  have hr := B.returns
  have hts := atoms_spec (ws := wsX2_add) B.pre
  have hown : s.vm.findClass RX2 = some m.cls := findClass_of_methodNamed B.named
  have hlocks := B.notSynchronized
  subst hsz
  have hD := hD0.self (sz := s.heap.size)
  generalize hAe : va_A ([(q 1, .inr (2, [.ref (q 2), .int (nI ln)])), (q 2, .inl (cI, 28, .inl bf))]) s.heap.size = A at hD ⊢
  have hA : ∀ q : Nat, s.heap.size ≤ q → A q := fun q h => by rw [← hAe]; exact Or.inr h
  have hS : va_S A s.heap s.heap [] := va_S.rf
  have hP : va_P (dC, dI) vwCl [(q 1, .inr (2, [.ref (q 2), .int (nI ln)])), (q 2, .inl (cI, 28, .inl bf))] s.heap := hP
  have hD : va_D A [(q 1, .inr (2, [.ref (q 2), .int (nI ln)])), (q 2, .inl (cI, 28, .inl bf))] := hD
  obtain ⟨H, hH⟩ : ∃ H : Heap, H = s.heap := ⟨_, rfl⟩
  obtain ⟨locs, hlc⟩ : ∃ locs : List Loc, locs = [] := ⟨_, rfl⟩
  have hl := lv_entry ([.ref (q 1), .int x]) (n := 2) (Nat.le_of_ble_eq_true rfl)
  rw [lg_entry_eq]
  generalize (lg_sl ([.ref (q 1), .int x]) ++ List.replicate (2 - (lg_sl ([.ref (q 1), .int x])).length) Slot.unset).toArray = ls at hl ⊢
  have hl : lv_has ls 2 [(0, .ref (q 1)), (1, .int x)] := hl
  refine mu_in hH hlc (fun hS hP hD => ?_) hS hP hD
  clear hH hlc
  refine lv_aload_n hx hb dX2_add_0 rfl (lv_at hl 0 rfl) ?_
  refine va_get (D := (dC, dI)) (ci := 2) (v := .int (nI ln)) (C := RX2) (T := TX2) (N := 2) hx hb hts (by decide +kernel) hown hK hP 0 rfl rfl 1 (by decide) (hts (.fieldLink RX2 15 "AchromatDesk$GlassText" "length" "I") (by decide +kernel)) (fun _ h9 => h9) rfl dX2_add_1 ?_
  refine lv_bipush (v := 28) hx hb dX2_add_4 (by decide) ?_
  refine rn_ge (tgt := 29) hx hb ln 28 rfl rfl (by omega) (by omega) dX2_add_6 (by decide) (fun h6 => ?_) (fun h6 => ?_)
  · exfalso; omega
  · refine lv_aload_n hx hb dX2_add_9 rfl (lv_at hl 0 rfl) ?_
    refine va_get (D := (dC, dI)) (ci := 2) (v := .ref (q 2)) (C := RX2) (T := TX2) (N := 2) hx hb hts (by decide +kernel) hown hK hP 0 rfl rfl 0 (by decide) (hts (.fieldLink RX2 11 "AchromatDesk$GlassText" "codes" "[I") (by decide +kernel)) (fun _ h9 => h9) rfl dX2_add_10 ?_
    refine lv_aload_n hx hb dX2_add_13 rfl (lv_at hl 0 rfl) ?_
    refine va_get (D := (dC, dI)) (ci := 2) (v := .int (nI ln)) (C := RX2) (T := TX2) (N := 2) hx hb hts (by decide +kernel) hown hK hP 0 rfl rfl 1 (by decide) (hts (.fieldLink RX2 15 "AchromatDesk$GlassText" "length" "I") (by decide +kernel)) (fun _ h9 => h9) rfl dX2_add_14 ?_
    refine lv_iload_n hx hb dX2_add_17 rfl (lv_at hl 1 rfl) ?_
    refine ar_iast hx hb hK hP hD hS 1 0 rfl rfl ln rfl (by omega) (by omega) dX2_add_18 (fun H locs hP hD hS => ?_)
    have hP : va_P (dC, dI) vwCl [(q 1, .inr (2, [.ref (q 2), .int (nI ln)])), (q 2, .inl (cI, 28, .inl (upd bf ln x)))] H := hP
    have hD : va_D A [(q 1, .inr (2, [.ref (q 2), .int (nI ln)])), (q 2, .inl (cI, 28, .inl (upd bf ln x)))] := hD
    refine lv_aload_n hx hb dX2_add_19 rfl (lv_at hl 0 rfl) ?_
    refine lv_dup hx hb dX2_add_20 rfl ?_
    refine va_get (D := (dC, dI)) (ci := 2) (v := .int (nI ln)) (C := RX2) (T := TX2) (N := 2) hx hb hts (by decide +kernel) hown hK hP 0 rfl rfl 1 (by decide) (hts (.fieldLink RX2 15 "AchromatDesk$GlassText" "length" "I") (by decide +kernel)) (fun _ h9 => h9) rfl dX2_add_21 ?_
    refine lv_iconst (v := 1) hx hb dX2_add_24 (by decide) ?_
    refine lv_iadd hx hb dX2_add_25 ?_
    refine rw_topi (nI_add ln 1) ?_
    refine va_put (D := (dC, dI)) (ci := 2) (v := .int (nI (ln + 1))) (ty := .int) (C := RX2) (T := TX2) (N := 2) hx hb hts (by decide +kernel) tyX2 tyX2_ok nmX2 hown hK hP hD hS 0 rfl rfl 1 (by decide) (hts (.fieldLink RX2 15 "AchromatDesk$GlassText" "length" "I") (by decide +kernel)) (fun _ h9 => h9) rfl (by decide +kernel) rfl rfl (Nat.le_of_ble_eq_true rfl) dX2_add_26 (fun H locs hP hD hS => ?_)
    have hP : va_P (dC, dI) vwCl [(q 1, .inr (2, [.ref (q 2), .int (nI (ln + 1))])), (q 2, .inl (cI, 28, .inl (upd bf ln x)))] H := hP
    have hD : va_D A [(q 1, .inr (2, [.ref (q 2), .int (nI (ln + 1))])), (q 2, .inl (cI, 28, .inl (upd bf ln x)))] := hD
    exact W.vret hx hb hr (fun t ht hW => ⟨⟨(), rfl, trivial, by rw [ht]; exact hP, by rw [hAe]; exact hD⟩, hS.F ht⟩) hS.2.2 dX2_add_29

set_option maxHeartbeats 4000000 in
set_option maxRecDepth 100000 in
theorem c_X2_empty (l : Launch) (dC : Nat → ClassId) (dI : Nat → Nat → Nat) (cI cJ : ClassId) (sz : Nat) (q : Nat → Nat) (bf : Nat → Int32) (ln : Nat) (hln : ln ≤ 28) : Met l yX2_empty wsX2_empty ({ frames := 0, cells := 0, slots := 0, locals := 0 }) (va_Pc [.ref (q 1)] (MU (dC, dI) (tyK cI cJ) ([(q 1, .inr (2, [.ref (q 2), .int (nI ln)])), (q 2, .inl (cI, 28, .inl bf))]) sz)) (va_Qv (fun _ => True) (MB (dC, dI) ([(q 1, .inr (2, [.ref (q 2), .int (nI ln)])), (q 2, .inl (cI, 28, .inl bf))]) sz (fun (_ : Unit) => [(q 1, .inr (2, [.ref (q 2), .int (nI 0)])), (q 2, .inl (cI, 28, .inl bf))])) (va_A ([(q 1, .inr (2, [.ref (q 2), .int (nI ln)])), (q 2, .inl (cI, 28, .inl bf))]) sz)) 0 0 (va_A ([(q 1, .inr (2, [.ref (q 2), .int (nI ln)])), (q 2, .inl (cI, 28, .inl bf))]) sz) := by
  refine Met.ofW (cc := cX2_empty) (maxL := 1) (ret := none) (by decide) rfl ?_
  intro p e s m args below meth c s₁ B hml hv
  obtain ⟨rfl, hsz, hP, hK, hN, hD0⟩ := hv
  have hx := B.exec
  have hb := B.bytes
  have hr := B.returns
  have hts := atoms_spec (ws := wsX2_empty) B.pre
  have hown : s.vm.findClass RX2 = some m.cls := findClass_of_methodNamed B.named
  have hlocks := B.notSynchronized
  subst hsz
  have hD := hD0.self (sz := s.heap.size)
  generalize hAe : va_A ([(q 1, .inr (2, [.ref (q 2), .int (nI ln)])), (q 2, .inl (cI, 28, .inl bf))]) s.heap.size = A at hD ⊢
  have hA : ∀ q : Nat, s.heap.size ≤ q → A q := fun q h => by rw [← hAe]; exact Or.inr h
  have hS : va_S A s.heap s.heap [] := va_S.rf
  have hP : va_P (dC, dI) vwCl [(q 1, .inr (2, [.ref (q 2), .int (nI ln)])), (q 2, .inl (cI, 28, .inl bf))] s.heap := hP
  have hD : va_D A [(q 1, .inr (2, [.ref (q 2), .int (nI ln)])), (q 2, .inl (cI, 28, .inl bf))] := hD
  obtain ⟨H, hH⟩ : ∃ H : Heap, H = s.heap := ⟨_, rfl⟩
  obtain ⟨locs, hlc⟩ : ∃ locs : List Loc, locs = [] := ⟨_, rfl⟩
  have hl := lv_entry ([.ref (q 1)]) (n := 1) (Nat.le_of_ble_eq_true rfl)
  rw [lg_entry_eq]
  generalize (lg_sl ([.ref (q 1)]) ++ List.replicate (1 - (lg_sl ([.ref (q 1)])).length) Slot.unset).toArray = ls at hl ⊢
  have hl : lv_has ls 1 [(0, .ref (q 1))] := hl
  refine mu_in hH hlc (fun hS hP hD => ?_) hS hP hD
  clear hH hlc
  refine lv_aload_n hx hb dX2_empty_0 rfl (lv_at hl 0 rfl) ?_
  refine lv_iconst (v := 0) hx hb dX2_empty_1 (by decide) ?_
  refine va_put (D := (dC, dI)) (ci := 2) (v := .int 0) (ty := .int) (C := RX2) (T := TX2) (N := 2) hx hb hts (by decide +kernel) tyX2 tyX2_ok nmX2 hown hK hP hD hS 0 rfl rfl 1 (by decide) (hts (.fieldLink RX2 15 "AchromatDesk$GlassText" "length" "I") (by decide +kernel)) (fun _ h9 => h9) rfl (by decide +kernel) rfl rfl (Nat.le_of_ble_eq_true rfl) dX2_empty_2 (fun H locs hP hD hS => ?_)
  have hP : va_P (dC, dI) vwCl [(q 1, .inr (2, [.ref (q 2), .int 0])), (q 2, .inl (cI, 28, .inl bf))] H := hP
  have hD : va_D A [(q 1, .inr (2, [.ref (q 2), .int 0])), (q 2, .inl (cI, 28, .inl bf))] := hD
  exact W.vret hx hb hr (fun t ht hW => ⟨⟨(), rfl, trivial, by rw [ht]; exact hP, by rw [hAe]; exact hD⟩, hS.F ht⟩) hS.2.2 dX2_empty_5

set_option maxHeartbeats 4000000 in
set_option maxRecDepth 100000 in
theorem c_X0_add (l : Launch) (dC : Nat → ClassId) (dI : Nat → Nat → Nat) (cI cJ : ClassId) (sz : Nat) (q : Nat → Nat) (G : GL) (n : Nat) (hn : n ≤ 20) (h20 : n < 20) (y : Int64) (f d k : Int32) : Met l yX0_add wsX0_add ({ frames := 0, cells := 0, slots := 0, locals := 0 }) (va_Pc [.ref (q 3), .long y, .int f, .int d, .int k] (MU (dC, dI) (tyK cI cJ) ([(q 3, .inr (0, [.ref (q 4), .ref (q 5), .ref (q 6), .ref (q 7), .int (nI n)])), (q 4, .inl (cJ, 20, .inr (.inl (gK G)))), (q 5, .inl (cI, 20, .inl (gF G))), (q 6, .inl (cI, 20, .inl (gD G))), (q 7, .inl (cI, 20, .inl (gC G)))]) sz)) (va_Qv (fun _ => True) (MB (dC, dI) ([(q 3, .inr (0, [.ref (q 4), .ref (q 5), .ref (q 6), .ref (q 7), .int (nI n)])), (q 4, .inl (cJ, 20, .inr (.inl (gK G)))), (q 5, .inl (cI, 20, .inl (gF G))), (q 6, .inl (cI, 20, .inl (gD G))), (q 7, .inl (cI, 20, .inl (gC G)))]) sz (fun (_ : Unit) => [(q 3, .inr (0, [.ref (q 4), .ref (q 5), .ref (q 6), .ref (q 7), .int (nI (n + 1))])), (q 4, .inl (cJ, 20, .inr (.inl (gK (addG G n y f d k))))), (q 5, .inl (cI, 20, .inl (gF (addG G n y f d k)))), (q 6, .inl (cI, 20, .inl (gD (addG G n y f d k)))), (q 7, .inl (cI, 20, .inl (gC (addG G n y f d k))))])) (va_A ([(q 3, .inr (0, [.ref (q 4), .ref (q 5), .ref (q 6), .ref (q 7), .int (nI n)])), (q 4, .inl (cJ, 20, .inr (.inl (gK G)))), (q 5, .inl (cI, 20, .inl (gF G))), (q 6, .inl (cI, 20, .inl (gD G))), (q 7, .inl (cI, 20, .inl (gC G)))]) sz)) 0 0 (va_A ([(q 3, .inr (0, [.ref (q 4), .ref (q 5), .ref (q 6), .ref (q 7), .int (nI n)])), (q 4, .inl (cJ, 20, .inr (.inl (gK G)))), (q 5, .inl (cI, 20, .inl (gF G))), (q 6, .inl (cI, 20, .inl (gD G))), (q 7, .inl (cI, 20, .inl (gC G)))]) sz) := by
  refine Met.ofW (cc := cX0_add) (maxL := 6) (ret := none) (by decide) rfl ?_
  intro p e s m args below meth c s₁ B hml hv
  obtain ⟨rfl, hsz, hP, hK, hN, hD0⟩ := hv
  have hx := B.exec
  have hb := B.bytes
  have hr := B.returns
  have hts := atoms_spec (ws := wsX0_add) B.pre
  have hown : s.vm.findClass RX0 = some m.cls := findClass_of_methodNamed B.named
  have hlocks := B.notSynchronized
  subst hsz
  have hD := hD0.self (sz := s.heap.size)
  generalize hAe : va_A ([(q 3, .inr (0, [.ref (q 4), .ref (q 5), .ref (q 6), .ref (q 7), .int (nI n)])), (q 4, .inl (cJ, 20, .inr (.inl (gK G)))), (q 5, .inl (cI, 20, .inl (gF G))), (q 6, .inl (cI, 20, .inl (gD G))), (q 7, .inl (cI, 20, .inl (gC G)))]) s.heap.size = A at hD ⊢
  have hA : ∀ q : Nat, s.heap.size ≤ q → A q := fun q h => by rw [← hAe]; exact Or.inr h
  have hS : va_S A s.heap s.heap [] := va_S.rf
  have hP : va_P (dC, dI) vwCl [(q 3, .inr (0, [.ref (q 4), .ref (q 5), .ref (q 6), .ref (q 7), .int (nI n)])), (q 4, .inl (cJ, 20, .inr (.inl (gK G)))), (q 5, .inl (cI, 20, .inl (gF G))), (q 6, .inl (cI, 20, .inl (gD G))), (q 7, .inl (cI, 20, .inl (gC G)))] s.heap := hP
  have hD : va_D A [(q 3, .inr (0, [.ref (q 4), .ref (q 5), .ref (q 6), .ref (q 7), .int (nI n)])), (q 4, .inl (cJ, 20, .inr (.inl (gK G)))), (q 5, .inl (cI, 20, .inl (gF G))), (q 6, .inl (cI, 20, .inl (gD G))), (q 7, .inl (cI, 20, .inl (gC G)))] := hD
  obtain ⟨H, hH⟩ : ∃ H : Heap, H = s.heap := ⟨_, rfl⟩
  obtain ⟨locs, hlc⟩ : ∃ locs : List Loc, locs = [] := ⟨_, rfl⟩
  have hl := lv_entry ([.ref (q 3), .long y, .int f, .int d, .int k]) (n := 6) (Nat.le_of_ble_eq_true rfl)
  rw [lg_entry_eq]
  generalize (lg_sl ([.ref (q 3), .long y, .int f, .int d, .int k]) ++ List.replicate (6 - (lg_sl ([.ref (q 3), .long y, .int f, .int d, .int k])).length) Slot.unset).toArray = ls at hl ⊢
  have hl : lv_has ls 6 [(0, .ref (q 3)), (1, .long y), (3, .int f), (4, .int d), (5, .int k)] := hl
  refine mu_in hH hlc (fun hS hP hD => ?_) hS hP hD
  clear hH hlc
  refine lv_aload_n hx hb dX0_add_0 rfl (lv_at hl 0 rfl) ?_
  refine va_get (D := (dC, dI)) (ci := 0) (v := .int (nI n)) (C := RX0) (T := TX0) (N := 5) hx hb hts (by decide +kernel) hown hK hP 0 rfl rfl 4 (by decide) (hts (.fieldLink RX0 25 "AchromatDesk$Catalogue" "count" "I") (by decide +kernel)) (fun _ h9 => h9) rfl dX0_add_1 ?_
  refine lv_bipush (v := 20) hx hb dX0_add_4 (by decide) ?_
  refine rn_ge (tgt := 61) hx hb n 20 rfl rfl (by omega) (by omega) dX0_add_6 (by decide) (fun h6 => ?_) (fun h6 => ?_)
  · exfalso; omega
  · refine lv_aload_n hx hb dX0_add_9 rfl (lv_at hl 0 rfl) ?_
    refine va_get (D := (dC, dI)) (ci := 0) (v := .ref (q 4)) (C := RX0) (T := TX0) (N := 5) hx hb hts (by decide +kernel) hown hK hP 0 rfl rfl 0 (by decide) (hts (.fieldLink RX0 9 "AchromatDesk$Catalogue" "nameKeys" "[J") (by decide +kernel)) (fun _ h9 => h9) rfl dX0_add_10 ?_
    refine lv_aload_n hx hb dX0_add_13 rfl (lv_at hl 0 rfl) ?_
    refine va_get (D := (dC, dI)) (ci := 0) (v := .int (nI n)) (C := RX0) (T := TX0) (N := 5) hx hb hts (by decide +kernel) hown hK hP 0 rfl rfl 4 (by decide) (hts (.fieldLink RX0 25 "AchromatDesk$Catalogue" "count" "I") (by decide +kernel)) (fun _ h9 => h9) rfl dX0_add_14 ?_
    refine lv_lload_n hx hb dX0_add_17 rfl (lv_at hl 1 rfl) ?_
    refine ar_last hx hb hK hP hD hS 1 1 rfl rfl n rfl (by omega) (by omega) dX0_add_18 (fun H locs hP hD hS => ?_)
    have hP : va_P (dC, dI) vwCl [(q 3, .inr (0, [.ref (q 4), .ref (q 5), .ref (q 6), .ref (q 7), .int (nI n)])), (q 4, .inl (cJ, 20, .inr (.inl (vp_updL (gK G) n y)))), (q 5, .inl (cI, 20, .inl (gF G))), (q 6, .inl (cI, 20, .inl (gD G))), (q 7, .inl (cI, 20, .inl (gC G)))] H := hP
    have hD : va_D A [(q 3, .inr (0, [.ref (q 4), .ref (q 5), .ref (q 6), .ref (q 7), .int (nI n)])), (q 4, .inl (cJ, 20, .inr (.inl (vp_updL (gK G) n y)))), (q 5, .inl (cI, 20, .inl (gF G))), (q 6, .inl (cI, 20, .inl (gD G))), (q 7, .inl (cI, 20, .inl (gC G)))] := hD
    refine lv_aload_n hx hb dX0_add_19 rfl (lv_at hl 0 rfl) ?_
    refine va_get (D := (dC, dI)) (ci := 0) (v := .ref (q 5)) (C := RX0) (T := TX0) (N := 5) hx hb hts (by decide +kernel) hown hK hP 0 rfl rfl 1 (by decide) (hts (.fieldLink RX0 15 "AchromatDesk$Catalogue" "indicesF" "[I") (by decide +kernel)) (fun _ h9 => h9) rfl dX0_add_20 ?_
    refine lv_aload_n hx hb dX0_add_23 rfl (lv_at hl 0 rfl) ?_
    refine va_get (D := (dC, dI)) (ci := 0) (v := .int (nI n)) (C := RX0) (T := TX0) (N := 5) hx hb hts (by decide +kernel) hown hK hP 0 rfl rfl 4 (by decide) (hts (.fieldLink RX0 25 "AchromatDesk$Catalogue" "count" "I") (by decide +kernel)) (fun _ h9 => h9) rfl dX0_add_24 ?_
    refine lv_iload_n hx hb dX0_add_27 rfl (lv_at hl 2 rfl) ?_
    refine ar_iast hx hb hK hP hD hS 2 0 rfl rfl n rfl (by omega) (by omega) dX0_add_28 (fun H locs hP hD hS => ?_)
    have hP : va_P (dC, dI) vwCl [(q 3, .inr (0, [.ref (q 4), .ref (q 5), .ref (q 6), .ref (q 7), .int (nI n)])), (q 4, .inl (cJ, 20, .inr (.inl (vp_updL (gK G) n y)))), (q 5, .inl (cI, 20, .inl (upd (gF G) n f))), (q 6, .inl (cI, 20, .inl (gD G))), (q 7, .inl (cI, 20, .inl (gC G)))] H := hP
    have hD : va_D A [(q 3, .inr (0, [.ref (q 4), .ref (q 5), .ref (q 6), .ref (q 7), .int (nI n)])), (q 4, .inl (cJ, 20, .inr (.inl (vp_updL (gK G) n y)))), (q 5, .inl (cI, 20, .inl (upd (gF G) n f))), (q 6, .inl (cI, 20, .inl (gD G))), (q 7, .inl (cI, 20, .inl (gC G)))] := hD
    refine lv_aload_n hx hb dX0_add_29 rfl (lv_at hl 0 rfl) ?_
    refine va_get (D := (dC, dI)) (ci := 0) (v := .ref (q 6)) (C := RX0) (T := TX0) (N := 5) hx hb hts (by decide +kernel) hown hK hP 0 rfl rfl 2 (by decide) (hts (.fieldLink RX0 19 "AchromatDesk$Catalogue" "indicesD" "[I") (by decide +kernel)) (fun _ h9 => h9) rfl dX0_add_30 ?_
    refine lv_aload_n hx hb dX0_add_33 rfl (lv_at hl 0 rfl) ?_
    refine va_get (D := (dC, dI)) (ci := 0) (v := .int (nI n)) (C := RX0) (T := TX0) (N := 5) hx hb hts (by decide +kernel) hown hK hP 0 rfl rfl 4 (by decide) (hts (.fieldLink RX0 25 "AchromatDesk$Catalogue" "count" "I") (by decide +kernel)) (fun _ h9 => h9) rfl dX0_add_34 ?_
    refine lv_iload hx hb dX0_add_37 (lv_at hl 3 rfl) ?_
    refine ar_iast hx hb hK hP hD hS 3 0 rfl rfl n rfl (by omega) (by omega) dX0_add_39 (fun H locs hP hD hS => ?_)
    have hP : va_P (dC, dI) vwCl [(q 3, .inr (0, [.ref (q 4), .ref (q 5), .ref (q 6), .ref (q 7), .int (nI n)])), (q 4, .inl (cJ, 20, .inr (.inl (vp_updL (gK G) n y)))), (q 5, .inl (cI, 20, .inl (upd (gF G) n f))), (q 6, .inl (cI, 20, .inl (upd (gD G) n d))), (q 7, .inl (cI, 20, .inl (gC G)))] H := hP
    have hD : va_D A [(q 3, .inr (0, [.ref (q 4), .ref (q 5), .ref (q 6), .ref (q 7), .int (nI n)])), (q 4, .inl (cJ, 20, .inr (.inl (vp_updL (gK G) n y)))), (q 5, .inl (cI, 20, .inl (upd (gF G) n f))), (q 6, .inl (cI, 20, .inl (upd (gD G) n d))), (q 7, .inl (cI, 20, .inl (gC G)))] := hD
    refine lv_aload_n hx hb dX0_add_40 rfl (lv_at hl 0 rfl) ?_
    refine va_get (D := (dC, dI)) (ci := 0) (v := .ref (q 7)) (C := RX0) (T := TX0) (N := 5) hx hb hts (by decide +kernel) hown hK hP 0 rfl rfl 3 (by decide) (hts (.fieldLink RX0 22 "AchromatDesk$Catalogue" "indicesC" "[I") (by decide +kernel)) (fun _ h9 => h9) rfl dX0_add_41 ?_
    refine lv_aload_n hx hb dX0_add_44 rfl (lv_at hl 0 rfl) ?_
    refine va_get (D := (dC, dI)) (ci := 0) (v := .int (nI n)) (C := RX0) (T := TX0) (N := 5) hx hb hts (by decide +kernel) hown hK hP 0 rfl rfl 4 (by decide) (hts (.fieldLink RX0 25 "AchromatDesk$Catalogue" "count" "I") (by decide +kernel)) (fun _ h9 => h9) rfl dX0_add_45 ?_
    refine lv_iload hx hb dX0_add_48 (lv_at hl 4 rfl) ?_
    refine ar_iast hx hb hK hP hD hS 4 0 rfl rfl n rfl (by omega) (by omega) dX0_add_50 (fun H locs hP hD hS => ?_)
    have hP : va_P (dC, dI) vwCl [(q 3, .inr (0, [.ref (q 4), .ref (q 5), .ref (q 6), .ref (q 7), .int (nI n)])), (q 4, .inl (cJ, 20, .inr (.inl (vp_updL (gK G) n y)))), (q 5, .inl (cI, 20, .inl (upd (gF G) n f))), (q 6, .inl (cI, 20, .inl (upd (gD G) n d))), (q 7, .inl (cI, 20, .inl (upd (gC G) n k)))] H := hP
    have hD : va_D A [(q 3, .inr (0, [.ref (q 4), .ref (q 5), .ref (q 6), .ref (q 7), .int (nI n)])), (q 4, .inl (cJ, 20, .inr (.inl (vp_updL (gK G) n y)))), (q 5, .inl (cI, 20, .inl (upd (gF G) n f))), (q 6, .inl (cI, 20, .inl (upd (gD G) n d))), (q 7, .inl (cI, 20, .inl (upd (gC G) n k)))] := hD
    refine lv_aload_n hx hb dX0_add_51 rfl (lv_at hl 0 rfl) ?_
    refine lv_dup hx hb dX0_add_52 rfl ?_
    refine va_get (D := (dC, dI)) (ci := 0) (v := .int (nI n)) (C := RX0) (T := TX0) (N := 5) hx hb hts (by decide +kernel) hown hK hP 0 rfl rfl 4 (by decide) (hts (.fieldLink RX0 25 "AchromatDesk$Catalogue" "count" "I") (by decide +kernel)) (fun _ h9 => h9) rfl dX0_add_53 ?_
    refine lv_iconst (v := 1) hx hb dX0_add_56 (by decide) ?_
    refine lv_iadd hx hb dX0_add_57 ?_
    refine rw_topi (nI_add n 1) ?_
    refine va_put (D := (dC, dI)) (ci := 0) (v := .int (nI (n + 1))) (ty := .int) (C := RX0) (T := TX0) (N := 5) hx hb hts (by decide +kernel) tyX0 tyX0_ok nmX0 hown hK hP hD hS 0 rfl rfl 4 (by decide) (hts (.fieldLink RX0 25 "AchromatDesk$Catalogue" "count" "I") (by decide +kernel)) (fun _ h9 => h9) rfl (by decide +kernel) rfl rfl (Nat.le_of_ble_eq_true rfl) dX0_add_58 (fun H locs hP hD hS => ?_)
    have hP : va_P (dC, dI) vwCl [(q 3, .inr (0, [.ref (q 4), .ref (q 5), .ref (q 6), .ref (q 7), .int (nI (n + 1))])), (q 4, .inl (cJ, 20, .inr (.inl (vp_updL (gK G) n y)))), (q 5, .inl (cI, 20, .inl (upd (gF G) n f))), (q 6, .inl (cI, 20, .inl (upd (gD G) n d))), (q 7, .inl (cI, 20, .inl (upd (gC G) n k)))] H := hP
    have hD : va_D A [(q 3, .inr (0, [.ref (q 4), .ref (q 5), .ref (q 6), .ref (q 7), .int (nI (n + 1))])), (q 4, .inl (cJ, 20, .inr (.inl (vp_updL (gK G) n y)))), (q 5, .inl (cI, 20, .inl (upd (gF G) n f))), (q 6, .inl (cI, 20, .inl (upd (gD G) n d))), (q 7, .inl (cI, 20, .inl (upd (gC G) n k)))] := hD
    exact W.vret hx hb hr (fun t ht hW => ⟨⟨(), rfl, trivial, by rw [ht]; exact hP, by rw [hAe]; exact hD⟩, hS.F ht⟩) hS.2.2 dX0_add_61

set_option maxHeartbeats 4000000 in
set_option maxRecDepth 100000 in
theorem c_X0_remove (l : Launch) (dC : Nat → ClassId) (dI : Nat → Nat → Nat) (cI cJ : ClassId) (sz : Nat) (q : Nat → Nat) (G : GL) (n : Nat) (hn : n ≤ 20) (g : Nat) (hg : g < n) : Met l yX0_remove wsX0_remove ({ frames := 1, cells := 0, slots := 0, locals := 21 }) (va_Pc [.ref (q 3), .int (nI g)] (MU (dC, dI) (tyK cI cJ) ([(q 3, .inr (0, [.ref (q 4), .ref (q 5), .ref (q 6), .ref (q 7), .int (nI n)])), (q 4, .inl (cJ, 20, .inr (.inl (gK G)))), (q 5, .inl (cI, 20, .inl (gF G))), (q 6, .inl (cI, 20, .inl (gD G))), (q 7, .inl (cI, 20, .inl (gC G)))]) sz)) (va_Qv (fun _ => True) (MB (dC, dI) ([(q 3, .inr (0, [.ref (q 4), .ref (q 5), .ref (q 6), .ref (q 7), .int (nI n)])), (q 4, .inl (cJ, 20, .inr (.inl (gK G)))), (q 5, .inl (cI, 20, .inl (gF G))), (q 6, .inl (cI, 20, .inl (gD G))), (q 7, .inl (cI, 20, .inl (gC G)))]) sz (fun (_ : Unit) => [(q 3, .inr (0, [.ref (q 4), .ref (q 5), .ref (q 6), .ref (q 7), .int (nI (n - 1))])), (q 4, .inl (cJ, 20, .inr (.inl (gK (rmG G g n))))), (q 5, .inl (cI, 20, .inl (gF (rmG G g n)))), (q 6, .inl (cI, 20, .inl (gD (rmG G g n)))), (q 7, .inl (cI, 20, .inl (gC (rmG G g n))))])) (va_A ([(q 3, .inr (0, [.ref (q 4), .ref (q 5), .ref (q 6), .ref (q 7), .int (nI n)])), (q 4, .inl (cJ, 20, .inr (.inl (gK G)))), (q 5, .inl (cI, 20, .inl (gF G))), (q 6, .inl (cI, 20, .inl (gD G))), (q 7, .inl (cI, 20, .inl (gC G)))]) sz)) 0 0 (va_A ([(q 3, .inr (0, [.ref (q 4), .ref (q 5), .ref (q 6), .ref (q 7), .int (nI n)])), (q 4, .inl (cJ, 20, .inr (.inl (gK G)))), (q 5, .inl (cI, 20, .inl (gF G))), (q 6, .inl (cI, 20, .inl (gD G))), (q 7, .inl (cI, 20, .inl (gC G)))]) sz) := by
  refine Met.ofW (cc := cX0_remove) (maxL := 3) (ret := none) (by decide) rfl ?_
  intro p e s m args below meth c s₁ B hml hv
  obtain ⟨rfl, hsz, hP, hK, hN, hD0⟩ := hv
  have hx := B.exec
  have hb := B.bytes
  have hr := B.returns
  have hts := atoms_spec (ws := wsX0_remove) B.pre
  have hown : s.vm.findClass RX0 = some m.cls := findClass_of_methodNamed B.named
  have hlocks := B.notSynchronized
  subst hsz
  have hD := hD0.self (sz := s.heap.size)
  generalize hAe : va_A ([(q 3, .inr (0, [.ref (q 4), .ref (q 5), .ref (q 6), .ref (q 7), .int (nI n)])), (q 4, .inl (cJ, 20, .inr (.inl (gK G)))), (q 5, .inl (cI, 20, .inl (gF G))), (q 6, .inl (cI, 20, .inl (gD G))), (q 7, .inl (cI, 20, .inl (gC G)))]) s.heap.size = A at hD ⊢
  have hA : ∀ q : Nat, s.heap.size ≤ q → A q := fun q h => by rw [← hAe]; exact Or.inr h
  have hS : va_S A s.heap s.heap [] := va_S.rf
  have hP : va_P (dC, dI) vwCl [(q 3, .inr (0, [.ref (q 4), .ref (q 5), .ref (q 6), .ref (q 7), .int (nI n)])), (q 4, .inl (cJ, 20, .inr (.inl (gK G)))), (q 5, .inl (cI, 20, .inl (gF G))), (q 6, .inl (cI, 20, .inl (gD G))), (q 7, .inl (cI, 20, .inl (gC G)))] s.heap := hP
  have hD : va_D A [(q 3, .inr (0, [.ref (q 4), .ref (q 5), .ref (q 6), .ref (q 7), .int (nI n)])), (q 4, .inl (cJ, 20, .inr (.inl (gK G)))), (q 5, .inl (cI, 20, .inl (gF G))), (q 6, .inl (cI, 20, .inl (gD G))), (q 7, .inl (cI, 20, .inl (gC G)))] := hD
  obtain ⟨H, hH⟩ : ∃ H : Heap, H = s.heap := ⟨_, rfl⟩
  obtain ⟨locs, hlc⟩ : ∃ locs : List Loc, locs = [] := ⟨_, rfl⟩
  have hl := lv_entry ([.ref (q 3), .int (nI g)]) (n := 3) (Nat.le_of_ble_eq_true rfl)
  rw [lg_entry_eq]
  generalize (lg_sl ([.ref (q 3), .int (nI g)]) ++ List.replicate (3 - (lg_sl ([.ref (q 3), .int (nI g)])).length) Slot.unset).toArray = ls at hl ⊢
  have hl : lv_has ls 3 [(0, .ref (q 3)), (1, .int (nI g))] := hl
  refine mu_in hH hlc (fun hS hP hD => ?_) hS hP hD
  clear hH hlc
  refine lv_aload_n hx hb dX0_remove_0 rfl (lv_at hl 0 rfl) ?_
  refine lv_iload_n hx hb dX0_remove_1 rfl (lv_at hl 1 rfl) ?_
  refine roVi (As := [.int (nI g)]) (rest := []) (c_X0_has l dC dI cI cJ q G n hn (nI g)) ⟨hx, hb, hml, hown, hts⟩ (cwV 1 hts gX0_remove_X0_has rfl rfl rfl (by decide +kernel) ⟨Nat.le_of_ble_eq_true rfl, Nat.le_of_ble_eq_true rfl⟩) (hP.sub [0, 1, 2, 3, 4] rfl) hK hN (ci := 0) rfl rfl rfl hl.1 rfl (Nat.le_of_ble_eq_true rfl) dX0_remove_2 ⟨Nat.zero_le _, Nat.zero_le _⟩ (fun r hr0 => ?_)
  subst hr0
  refine rb_eq (tgt := 92) hx hb dX0_remove_5 (by decide) (fun h5 => ?_) (fun h5 => ?_)
  · exact absurd (hasP_nI (by omega) (by omega)) h5
  · refine lv_iload_n hx hb dX0_remove_8 rfl (lv_at hl 1 rfl) ?_
    refine lv_iconst (v := 1) hx hb dX0_remove_9 (by decide) ?_
    refine lv_iadd hx hb dX0_remove_10 ?_
    refine rw_topi (nI_add g 1) ?_
    refine lv_istore_n (lv' := [(2, .int (nI (g + 1))), (0, .ref (q 3)), (1, .int (nI g))]) hx hb dX0_remove_11 rfl hl (by decide) rfl (fun ls hl => ?_)
    refine rloopW (nL := 3) (D := (dC, dI)) (cl := vwCl) (A := A) (g + 1) n (fun _ z => z) () (fun k12 z12 => [(q 3, .inr (0, [.ref (q 4), .ref (q 5), .ref (q 6), .ref (q 7), .int (nI n)])), (q 4, .inl (cJ, 20, .inr (.inl (shf (gK G) g k12)))), (q 5, .inl (cI, 20, .inl (shf (gF G) g k12))), (q 6, .inl (cI, 20, .inl (shf (gD G) g k12))), (q 7, .inl (cI, 20, .inl (shf (gC G) g k12)))]) (fun k12 z12 => [(2, .int (nI k12)), (0, .ref (q 3)), (1, .int (nI g))]) (fun _ _ => True) (by omega) (trivial) (show va_P (dC, dI) vwCl [(q 3, .inr (0, [.ref (q 4), .ref (q 5), .ref (q 6), .ref (q 7), .int (nI n)])), (q 4, .inl (cJ, 20, .inr (.inl (shf (gK G) g (g + 1))))), (q 5, .inl (cI, 20, .inl (shf (gF G) g (g + 1)))), (q 6, .inl (cI, 20, .inl (shf (gD G) g (g + 1)))), (q 7, .inl (cI, 20, .inl (shf (gC G) g (g + 1))))] H from by rw [shf_0, shf_0, shf_0, shf_0]; exact hP) (show va_D A [(q 3, .inr (0, [.ref (q 4), .ref (q 5), .ref (q 6), .ref (q 7), .int (nI n)])), (q 4, .inl (cJ, 20, .inr (.inl (shf (gK G) g (g + 1))))), (q 5, .inl (cI, 20, .inl (shf (gF G) g (g + 1)))), (q 6, .inl (cI, 20, .inl (shf (gD G) g (g + 1)))), (q 7, .inl (cI, 20, .inl (shf (gC G) g (g + 1))))] from by rw [shf_0, shf_0, shf_0, shf_0]; exact hD) hS (lv_sub hl [0, 1, 2] rfl) (fun k12 z12 hlo12 hk12 hz12 hI12 H locs ls hP hD hS hl ih12 => ?_) (fun z12 hz12 hI12 H locs ls hP hD hS hl => ?_)
    · have hP : va_P (dC, dI) vwCl [(q 3, .inr (0, [.ref (q 4), .ref (q 5), .ref (q 6), .ref (q 7), .int (nI n)])), (q 4, .inl (cJ, 20, .inr (.inl (shf (gK G) g k12)))), (q 5, .inl (cI, 20, .inl (shf (gF G) g k12))), (q 6, .inl (cI, 20, .inl (shf (gD G) g k12))), (q 7, .inl (cI, 20, .inl (shf (gC G) g k12)))] H := hP
      have hD : va_D A [(q 3, .inr (0, [.ref (q 4), .ref (q 5), .ref (q 6), .ref (q 7), .int (nI n)])), (q 4, .inl (cJ, 20, .inr (.inl (shf (gK G) g k12)))), (q 5, .inl (cI, 20, .inl (shf (gF G) g k12))), (q 6, .inl (cI, 20, .inl (shf (gD G) g k12))), (q 7, .inl (cI, 20, .inl (shf (gC G) g k12)))] := hD
      refine lv_iload_n hx hb dX0_remove_12 rfl (lv_at hl 0 rfl) ?_
      refine lv_aload_n hx hb dX0_remove_13 rfl (lv_at hl 1 rfl) ?_
      refine va_get (D := (dC, dI)) (ci := 0) (v := .int (nI n)) (C := RX0) (T := TX0) (N := 5) hx hb hts (by decide +kernel) hown hK hP 0 rfl rfl 4 (by decide) (hts (.fieldLink RX0 25 "AchromatDesk$Catalogue" "count" "I") (by decide +kernel)) (fun _ h9 => h9) rfl dX0_remove_14 ?_
      refine rn_ge (tgt := 82) hx hb k12 n rfl rfl (by omega) (by omega) dX0_remove_17 (by decide) (fun h17 => ?_) (fun h17 => ?_)
      · exfalso; omega
      · refine lv_aload_n hx hb dX0_remove_20 rfl (lv_at hl 1 rfl) ?_
        refine va_get (D := (dC, dI)) (ci := 0) (v := .ref (q 4)) (C := RX0) (T := TX0) (N := 5) hx hb hts (by decide +kernel) hown hK hP 0 rfl rfl 0 (by decide) (hts (.fieldLink RX0 9 "AchromatDesk$Catalogue" "nameKeys" "[J") (by decide +kernel)) (fun _ h9 => h9) rfl dX0_remove_21 ?_
        refine lv_iload_n hx hb dX0_remove_24 rfl (lv_at hl 0 rfl) ?_
        refine lv_iconst (v := 1) hx hb dX0_remove_25 (by decide) ?_
        refine lv_isub hx hb dX0_remove_26 ?_
        refine rw_topi (show ((nI k12) - 1 : Int32) = (nI (k12 - 1) : Int32) from pk_sub (b := 1) (by omega)) ?_
        refine lv_aload_n hx hb dX0_remove_27 rfl (lv_at hl 1 rfl) ?_
        refine va_get (D := (dC, dI)) (ci := 0) (v := .ref (q 4)) (C := RX0) (T := TX0) (N := 5) hx hb hts (by decide +kernel) hown hK hP 0 rfl rfl 0 (by decide) (hts (.fieldLink RX0 9 "AchromatDesk$Catalogue" "nameKeys" "[J") (by decide +kernel)) (fun _ h9 => h9) rfl dX0_remove_28 ?_
        refine lv_iload_n hx hb dX0_remove_31 rfl (lv_at hl 0 rfl) ?_
        refine ar_lald hx hb hK hP 1 1 rfl rfl k12 rfl (by omega) (by omega) dX0_remove_32 ?_
        refine rw_topl (show ((shf (gK G) g k12) k12 : Int64) = (gK G k12 : Int64) from shf_at _ _ _) ?_
        refine ar_last hx hb hK hP hD hS 1 1 rfl rfl (k12 - 1) rfl (by omega) (by omega) dX0_remove_33 (fun H locs hP hD hS => ?_)
        have hP : va_P (dC, dI) vwCl [(q 3, .inr (0, [.ref (q 4), .ref (q 5), .ref (q 6), .ref (q 7), .int (nI n)])), (q 4, .inl (cJ, 20, .inr (.inl (vp_updL (shf (gK G) g k12) (k12 - 1) (gK G k12))))), (q 5, .inl (cI, 20, .inl (shf (gF G) g k12))), (q 6, .inl (cI, 20, .inl (shf (gD G) g k12))), (q 7, .inl (cI, 20, .inl (shf (gC G) g k12)))] H := hP
        have hD : va_D A [(q 3, .inr (0, [.ref (q 4), .ref (q 5), .ref (q 6), .ref (q 7), .int (nI n)])), (q 4, .inl (cJ, 20, .inr (.inl (vp_updL (shf (gK G) g k12) (k12 - 1) (gK G k12))))), (q 5, .inl (cI, 20, .inl (shf (gF G) g k12))), (q 6, .inl (cI, 20, .inl (shf (gD G) g k12))), (q 7, .inl (cI, 20, .inl (shf (gC G) g k12)))] := hD
        refine lv_aload_n hx hb dX0_remove_34 rfl (lv_at hl 1 rfl) ?_
        refine va_get (D := (dC, dI)) (ci := 0) (v := .ref (q 5)) (C := RX0) (T := TX0) (N := 5) hx hb hts (by decide +kernel) hown hK hP 0 rfl rfl 1 (by decide) (hts (.fieldLink RX0 15 "AchromatDesk$Catalogue" "indicesF" "[I") (by decide +kernel)) (fun _ h9 => h9) rfl dX0_remove_35 ?_
        refine lv_iload_n hx hb dX0_remove_38 rfl (lv_at hl 0 rfl) ?_
        refine lv_iconst (v := 1) hx hb dX0_remove_39 (by decide) ?_
        refine lv_isub hx hb dX0_remove_40 ?_
        refine rw_topi (show ((nI k12) - 1 : Int32) = (nI (k12 - 1) : Int32) from pk_sub (b := 1) (by omega)) ?_
        refine lv_aload_n hx hb dX0_remove_41 rfl (lv_at hl 1 rfl) ?_
        refine va_get (D := (dC, dI)) (ci := 0) (v := .ref (q 5)) (C := RX0) (T := TX0) (N := 5) hx hb hts (by decide +kernel) hown hK hP 0 rfl rfl 1 (by decide) (hts (.fieldLink RX0 15 "AchromatDesk$Catalogue" "indicesF" "[I") (by decide +kernel)) (fun _ h9 => h9) rfl dX0_remove_42 ?_
        refine lv_iload_n hx hb dX0_remove_45 rfl (lv_at hl 0 rfl) ?_
        refine ar_iald hx hb hK hP 2 0 rfl rfl k12 rfl (by omega) (by omega) dX0_remove_46 ?_
        refine rw_topi (show ((shf (gF G) g k12) k12 : Int32) = (gF G k12 : Int32) from shf_at _ _ _) ?_
        refine ar_iast hx hb hK hP hD hS 2 0 rfl rfl (k12 - 1) rfl (by omega) (by omega) dX0_remove_47 (fun H locs hP hD hS => ?_)
        have hP : va_P (dC, dI) vwCl [(q 3, .inr (0, [.ref (q 4), .ref (q 5), .ref (q 6), .ref (q 7), .int (nI n)])), (q 4, .inl (cJ, 20, .inr (.inl (vp_updL (shf (gK G) g k12) (k12 - 1) (gK G k12))))), (q 5, .inl (cI, 20, .inl (upd (shf (gF G) g k12) (k12 - 1) (gF G k12)))), (q 6, .inl (cI, 20, .inl (shf (gD G) g k12))), (q 7, .inl (cI, 20, .inl (shf (gC G) g k12)))] H := hP
        have hD : va_D A [(q 3, .inr (0, [.ref (q 4), .ref (q 5), .ref (q 6), .ref (q 7), .int (nI n)])), (q 4, .inl (cJ, 20, .inr (.inl (vp_updL (shf (gK G) g k12) (k12 - 1) (gK G k12))))), (q 5, .inl (cI, 20, .inl (upd (shf (gF G) g k12) (k12 - 1) (gF G k12)))), (q 6, .inl (cI, 20, .inl (shf (gD G) g k12))), (q 7, .inl (cI, 20, .inl (shf (gC G) g k12)))] := hD
        refine lv_aload_n hx hb dX0_remove_48 rfl (lv_at hl 1 rfl) ?_
        refine va_get (D := (dC, dI)) (ci := 0) (v := .ref (q 6)) (C := RX0) (T := TX0) (N := 5) hx hb hts (by decide +kernel) hown hK hP 0 rfl rfl 2 (by decide) (hts (.fieldLink RX0 19 "AchromatDesk$Catalogue" "indicesD" "[I") (by decide +kernel)) (fun _ h9 => h9) rfl dX0_remove_49 ?_
        refine lv_iload_n hx hb dX0_remove_52 rfl (lv_at hl 0 rfl) ?_
        refine lv_iconst (v := 1) hx hb dX0_remove_53 (by decide) ?_
        refine lv_isub hx hb dX0_remove_54 ?_
        refine rw_topi (show ((nI k12) - 1 : Int32) = (nI (k12 - 1) : Int32) from pk_sub (b := 1) (by omega)) ?_
        refine lv_aload_n hx hb dX0_remove_55 rfl (lv_at hl 1 rfl) ?_
        refine va_get (D := (dC, dI)) (ci := 0) (v := .ref (q 6)) (C := RX0) (T := TX0) (N := 5) hx hb hts (by decide +kernel) hown hK hP 0 rfl rfl 2 (by decide) (hts (.fieldLink RX0 19 "AchromatDesk$Catalogue" "indicesD" "[I") (by decide +kernel)) (fun _ h9 => h9) rfl dX0_remove_56 ?_
        refine lv_iload_n hx hb dX0_remove_59 rfl (lv_at hl 0 rfl) ?_
        refine ar_iald hx hb hK hP 3 0 rfl rfl k12 rfl (by omega) (by omega) dX0_remove_60 ?_
        refine rw_topi (show ((shf (gD G) g k12) k12 : Int32) = (gD G k12 : Int32) from shf_at _ _ _) ?_
        refine ar_iast hx hb hK hP hD hS 3 0 rfl rfl (k12 - 1) rfl (by omega) (by omega) dX0_remove_61 (fun H locs hP hD hS => ?_)
        have hP : va_P (dC, dI) vwCl [(q 3, .inr (0, [.ref (q 4), .ref (q 5), .ref (q 6), .ref (q 7), .int (nI n)])), (q 4, .inl (cJ, 20, .inr (.inl (vp_updL (shf (gK G) g k12) (k12 - 1) (gK G k12))))), (q 5, .inl (cI, 20, .inl (upd (shf (gF G) g k12) (k12 - 1) (gF G k12)))), (q 6, .inl (cI, 20, .inl (upd (shf (gD G) g k12) (k12 - 1) (gD G k12)))), (q 7, .inl (cI, 20, .inl (shf (gC G) g k12)))] H := hP
        have hD : va_D A [(q 3, .inr (0, [.ref (q 4), .ref (q 5), .ref (q 6), .ref (q 7), .int (nI n)])), (q 4, .inl (cJ, 20, .inr (.inl (vp_updL (shf (gK G) g k12) (k12 - 1) (gK G k12))))), (q 5, .inl (cI, 20, .inl (upd (shf (gF G) g k12) (k12 - 1) (gF G k12)))), (q 6, .inl (cI, 20, .inl (upd (shf (gD G) g k12) (k12 - 1) (gD G k12)))), (q 7, .inl (cI, 20, .inl (shf (gC G) g k12)))] := hD
        refine lv_aload_n hx hb dX0_remove_62 rfl (lv_at hl 1 rfl) ?_
        refine va_get (D := (dC, dI)) (ci := 0) (v := .ref (q 7)) (C := RX0) (T := TX0) (N := 5) hx hb hts (by decide +kernel) hown hK hP 0 rfl rfl 3 (by decide) (hts (.fieldLink RX0 22 "AchromatDesk$Catalogue" "indicesC" "[I") (by decide +kernel)) (fun _ h9 => h9) rfl dX0_remove_63 ?_
        refine lv_iload_n hx hb dX0_remove_66 rfl (lv_at hl 0 rfl) ?_
        refine lv_iconst (v := 1) hx hb dX0_remove_67 (by decide) ?_
        refine lv_isub hx hb dX0_remove_68 ?_
        refine rw_topi (show ((nI k12) - 1 : Int32) = (nI (k12 - 1) : Int32) from pk_sub (b := 1) (by omega)) ?_
        refine lv_aload_n hx hb dX0_remove_69 rfl (lv_at hl 1 rfl) ?_
        refine va_get (D := (dC, dI)) (ci := 0) (v := .ref (q 7)) (C := RX0) (T := TX0) (N := 5) hx hb hts (by decide +kernel) hown hK hP 0 rfl rfl 3 (by decide) (hts (.fieldLink RX0 22 "AchromatDesk$Catalogue" "indicesC" "[I") (by decide +kernel)) (fun _ h9 => h9) rfl dX0_remove_70 ?_
        refine lv_iload_n hx hb dX0_remove_73 rfl (lv_at hl 0 rfl) ?_
        refine ar_iald hx hb hK hP 4 0 rfl rfl k12 rfl (by omega) (by omega) dX0_remove_74 ?_
        refine rw_topi (show ((shf (gC G) g k12) k12 : Int32) = (gC G k12 : Int32) from shf_at _ _ _) ?_
        refine ar_iast hx hb hK hP hD hS 4 0 rfl rfl (k12 - 1) rfl (by omega) (by omega) dX0_remove_75 (fun H locs hP hD hS => ?_)
        have hP : va_P (dC, dI) vwCl [(q 3, .inr (0, [.ref (q 4), .ref (q 5), .ref (q 6), .ref (q 7), .int (nI n)])), (q 4, .inl (cJ, 20, .inr (.inl (vp_updL (shf (gK G) g k12) (k12 - 1) (gK G k12))))), (q 5, .inl (cI, 20, .inl (upd (shf (gF G) g k12) (k12 - 1) (gF G k12)))), (q 6, .inl (cI, 20, .inl (upd (shf (gD G) g k12) (k12 - 1) (gD G k12)))), (q 7, .inl (cI, 20, .inl (upd (shf (gC G) g k12) (k12 - 1) (gC G k12))))] H := hP
        have hD : va_D A [(q 3, .inr (0, [.ref (q 4), .ref (q 5), .ref (q 6), .ref (q 7), .int (nI n)])), (q 4, .inl (cJ, 20, .inr (.inl (vp_updL (shf (gK G) g k12) (k12 - 1) (gK G k12))))), (q 5, .inl (cI, 20, .inl (upd (shf (gF G) g k12) (k12 - 1) (gF G k12)))), (q 6, .inl (cI, 20, .inl (upd (shf (gD G) g k12) (k12 - 1) (gD G k12)))), (q 7, .inl (cI, 20, .inl (upd (shf (gC G) g k12) (k12 - 1) (gC G k12))))] := hD
        refine lv_iinc (v := nI (k12 + 1)) (lv' := [(2, .int (nI (k12 + 1))), (0, .ref (q 3)), (1, .int (nI g))]) hx hb dX0_remove_76 hl (k := 0) rfl (by first | rfl | exact nI_add _ _) (by decide) rfl (fun ls hl => ?_)
        refine lv_goto (tgt := 12) hx hb dX0_remove_79 (by decide) ?_
        exact ih12 () (rfl) (trivial) H locs ls (show va_P (dC, dI) vwCl [(q 3, .inr (0, [.ref (q 4), .ref (q 5), .ref (q 6), .ref (q 7), .int (nI n)])), (q 4, .inl (cJ, 20, .inr (.inl (shf (gK G) g (k12 + 1))))), (q 5, .inl (cI, 20, .inl (shf (gF G) g (k12 + 1)))), (q 6, .inl (cI, 20, .inl (shf (gD G) g (k12 + 1)))), (q 7, .inl (cI, 20, .inl (shf (gC G) g (k12 + 1))))] H from by rw [← shf_sL (gK G) hlo12, ← shf_s (gF G) hlo12, ← shf_s (gD G) hlo12, ← shf_s (gC G) hlo12]; exact hP) (show va_D A [(q 3, .inr (0, [.ref (q 4), .ref (q 5), .ref (q 6), .ref (q 7), .int (nI n)])), (q 4, .inl (cJ, 20, .inr (.inl (shf (gK G) g (k12 + 1))))), (q 5, .inl (cI, 20, .inl (shf (gF G) g (k12 + 1)))), (q 6, .inl (cI, 20, .inl (shf (gD G) g (k12 + 1)))), (q 7, .inl (cI, 20, .inl (shf (gC G) g (k12 + 1))))] from by rw [← shf_sL (gK G) hlo12, ← shf_s (gF G) hlo12, ← shf_s (gD G) hlo12, ← shf_s (gC G) hlo12]; exact hD) hS (lv_sub hl [0, 1, 2] rfl)
    · have hP : va_P (dC, dI) vwCl [(q 3, .inr (0, [.ref (q 4), .ref (q 5), .ref (q 6), .ref (q 7), .int (nI n)])), (q 4, .inl (cJ, 20, .inr (.inl (shf (gK G) g n)))), (q 5, .inl (cI, 20, .inl (shf (gF G) g n))), (q 6, .inl (cI, 20, .inl (shf (gD G) g n))), (q 7, .inl (cI, 20, .inl (shf (gC G) g n)))] H := hP
      have hD : va_D A [(q 3, .inr (0, [.ref (q 4), .ref (q 5), .ref (q 6), .ref (q 7), .int (nI n)])), (q 4, .inl (cJ, 20, .inr (.inl (shf (gK G) g n)))), (q 5, .inl (cI, 20, .inl (shf (gF G) g n))), (q 6, .inl (cI, 20, .inl (shf (gD G) g n))), (q 7, .inl (cI, 20, .inl (shf (gC G) g n)))] := hD
      refine lv_iload_n hx hb dX0_remove_12 rfl (lv_at hl 0 rfl) ?_
      refine lv_aload_n hx hb dX0_remove_13 rfl (lv_at hl 1 rfl) ?_
      refine va_get (D := (dC, dI)) (ci := 0) (v := .int (nI n)) (C := RX0) (T := TX0) (N := 5) hx hb hts (by decide +kernel) hown hK hP 0 rfl rfl 4 (by decide) (hts (.fieldLink RX0 25 "AchromatDesk$Catalogue" "count" "I") (by decide +kernel)) (fun _ h9 => h9) rfl dX0_remove_14 ?_
      refine rn_ge (tgt := 82) hx hb n n rfl rfl (by omega) (by omega) dX0_remove_17 (by decide) (fun h17 => ?_) (fun h17 => ?_)
      · refine lv_aload_n hx hb dX0_remove_82 rfl (lv_at hl 1 rfl) ?_
        refine lv_dup hx hb dX0_remove_83 rfl ?_
        refine va_get (D := (dC, dI)) (ci := 0) (v := .int (nI n)) (C := RX0) (T := TX0) (N := 5) hx hb hts (by decide +kernel) hown hK hP 0 rfl rfl 4 (by decide) (hts (.fieldLink RX0 25 "AchromatDesk$Catalogue" "count" "I") (by decide +kernel)) (fun _ h9 => h9) rfl dX0_remove_84 ?_
        refine lv_iconst (v := 1) hx hb dX0_remove_87 (by decide) ?_
        refine lv_isub hx hb dX0_remove_88 ?_
        refine rw_topi (show ((nI n) - 1 : Int32) = (nI (n - 1) : Int32) from pk_sub (b := 1) (by omega)) ?_
        refine va_put (D := (dC, dI)) (ci := 0) (v := .int (nI (n - 1))) (ty := .int) (C := RX0) (T := TX0) (N := 5) hx hb hts (by decide +kernel) tyX0 tyX0_ok nmX0 hown hK hP hD hS 0 rfl rfl 4 (by decide) (hts (.fieldLink RX0 25 "AchromatDesk$Catalogue" "count" "I") (by decide +kernel)) (fun _ h9 => h9) rfl (by decide +kernel) rfl rfl (Nat.le_of_ble_eq_true rfl) dX0_remove_89 (fun H locs hP hD hS => ?_)
        have hP : va_P (dC, dI) vwCl [(q 3, .inr (0, [.ref (q 4), .ref (q 5), .ref (q 6), .ref (q 7), .int (nI (n - 1))])), (q 4, .inl (cJ, 20, .inr (.inl (shf (gK G) g n)))), (q 5, .inl (cI, 20, .inl (shf (gF G) g n))), (q 6, .inl (cI, 20, .inl (shf (gD G) g n))), (q 7, .inl (cI, 20, .inl (shf (gC G) g n)))] H := hP
        have hD : va_D A [(q 3, .inr (0, [.ref (q 4), .ref (q 5), .ref (q 6), .ref (q 7), .int (nI (n - 1))])), (q 4, .inl (cJ, 20, .inr (.inl (shf (gK G) g n)))), (q 5, .inl (cI, 20, .inl (shf (gF G) g n))), (q 6, .inl (cI, 20, .inl (shf (gD G) g n))), (q 7, .inl (cI, 20, .inl (shf (gC G) g n)))] := hD
        exact W.vret hx hb hr (fun t ht hW => ⟨⟨(), rfl, trivial, by rw [ht]; exact hP, by rw [hAe]; exact hD⟩, hS.F ht⟩) hS.2.2 dX0_remove_92
      · exfalso; omega

set_option maxHeartbeats 4000000 in
set_option maxRecDepth 100000 in
theorem c_X3_add (l : Launch) (dC : Nat → ClassId) (dI : Nat → Nat → Nat) (cI cJ : ClassId) (sz : Nat) (q : Nat → Nat) (lg lp : Nat → Int32) (k : Nat) (hk : k ≤ 8) (h8 : k < 8) (x y : Int32) : Met l yX3_add wsX3_add ({ frames := 0, cells := 0, slots := 0, locals := 0 }) (va_Pc [.ref (q 14), .int x, .int y] (MU (dC, dI) (tyK cI cJ) ([(q 14, .inr (3, [.ref (q 15), .ref (q 16), .int (nI k)])), (q 15, .inl (cI, 8, .inl lg)), (q 16, .inl (cI, 8, .inl lp))]) sz)) (va_Qv (fun _ => True) (MB (dC, dI) ([(q 14, .inr (3, [.ref (q 15), .ref (q 16), .int (nI k)])), (q 15, .inl (cI, 8, .inl lg)), (q 16, .inl (cI, 8, .inl lp))]) sz (fun (_ : Unit) => [(q 14, .inr (3, [.ref (q 15), .ref (q 16), .int (nI (k + 1))])), (q 15, .inl (cI, 8, .inl (upd lg k x))), (q 16, .inl (cI, 8, .inl (upd lp k y)))])) (va_A ([(q 14, .inr (3, [.ref (q 15), .ref (q 16), .int (nI k)])), (q 15, .inl (cI, 8, .inl lg)), (q 16, .inl (cI, 8, .inl lp))]) sz)) 0 0 (va_A ([(q 14, .inr (3, [.ref (q 15), .ref (q 16), .int (nI k)])), (q 15, .inl (cI, 8, .inl lg)), (q 16, .inl (cI, 8, .inl lp))]) sz) := by
  refine Met.ofW (cc := cX3_add) (maxL := 3) (ret := none) (by decide) rfl ?_
  intro p e s m args below meth c s₁ B hml hv
  obtain ⟨rfl, hsz, hP, hK, hN, hD0⟩ := hv
  have hx := B.exec
  have hb := B.bytes
  have hr := B.returns
  have hts := atoms_spec (ws := wsX3_add) B.pre
  have hown : s.vm.findClass RX3 = some m.cls := findClass_of_methodNamed B.named
  have hlocks := B.notSynchronized
  subst hsz
  have hD := hD0.self (sz := s.heap.size)
  generalize hAe : va_A ([(q 14, .inr (3, [.ref (q 15), .ref (q 16), .int (nI k)])), (q 15, .inl (cI, 8, .inl lg)), (q 16, .inl (cI, 8, .inl lp))]) s.heap.size = A at hD ⊢
  have hA : ∀ q : Nat, s.heap.size ≤ q → A q := fun q h => by rw [← hAe]; exact Or.inr h
  have hS : va_S A s.heap s.heap [] := va_S.rf
  have hP : va_P (dC, dI) vwCl [(q 14, .inr (3, [.ref (q 15), .ref (q 16), .int (nI k)])), (q 15, .inl (cI, 8, .inl lg)), (q 16, .inl (cI, 8, .inl lp))] s.heap := hP
  have hD : va_D A [(q 14, .inr (3, [.ref (q 15), .ref (q 16), .int (nI k)])), (q 15, .inl (cI, 8, .inl lg)), (q 16, .inl (cI, 8, .inl lp))] := hD
  obtain ⟨H, hH⟩ : ∃ H : Heap, H = s.heap := ⟨_, rfl⟩
  obtain ⟨locs, hlc⟩ : ∃ locs : List Loc, locs = [] := ⟨_, rfl⟩
  have hl := lv_entry ([.ref (q 14), .int x, .int y]) (n := 3) (Nat.le_of_ble_eq_true rfl)
  rw [lg_entry_eq]
  generalize (lg_sl ([.ref (q 14), .int x, .int y]) ++ List.replicate (3 - (lg_sl ([.ref (q 14), .int x, .int y])).length) Slot.unset).toArray = ls at hl ⊢
  have hl : lv_has ls 3 [(0, .ref (q 14)), (1, .int x), (2, .int y)] := hl
  refine mu_in hH hlc (fun hS hP hD => ?_) hS hP hD
  clear hH hlc
  refine lv_aload_n hx hb dX3_add_0 rfl (lv_at hl 0 rfl) ?_
  refine va_get (D := (dC, dI)) (ci := 3) (v := .int (nI k)) (C := RX3) (T := TX3) (N := 3) hx hb hts (by decide +kernel) hown hK hP 0 rfl rfl 2 (by decide) (hts (.fieldLink RX3 18 "AchromatDesk$LensSystem" "count" "I") (by decide +kernel)) (fun _ h9 => h9) rfl dX3_add_1 ?_
  refine lv_bipush (v := 8) hx hb dX3_add_4 (by decide) ?_
  refine rn_ge (tgt := 39) hx hb k 8 rfl rfl (by omega) (by omega) dX3_add_6 (by decide) (fun h6 => ?_) (fun h6 => ?_)
  · exfalso; omega
  · refine lv_aload_n hx hb dX3_add_9 rfl (lv_at hl 0 rfl) ?_
    refine va_get (D := (dC, dI)) (ci := 3) (v := .ref (q 15)) (C := RX3) (T := TX3) (N := 3) hx hb hts (by decide +kernel) hown hK hP 0 rfl rfl 0 (by decide) (hts (.fieldLink RX3 9 "AchromatDesk$LensSystem" "glassNumbers" "[I") (by decide +kernel)) (fun _ h9 => h9) rfl dX3_add_10 ?_
    refine lv_aload_n hx hb dX3_add_13 rfl (lv_at hl 0 rfl) ?_
    refine va_get (D := (dC, dI)) (ci := 3) (v := .int (nI k)) (C := RX3) (T := TX3) (N := 3) hx hb hts (by decide +kernel) hown hK hP 0 rfl rfl 2 (by decide) (hts (.fieldLink RX3 18 "AchromatDesk$LensSystem" "count" "I") (by decide +kernel)) (fun _ h9 => h9) rfl dX3_add_14 ?_
    refine lv_iload_n hx hb dX3_add_17 rfl (lv_at hl 1 rfl) ?_
    refine ar_iast hx hb hK hP hD hS 1 0 rfl rfl k rfl (by omega) (by omega) dX3_add_18 (fun H locs hP hD hS => ?_)
    have hP : va_P (dC, dI) vwCl [(q 14, .inr (3, [.ref (q 15), .ref (q 16), .int (nI k)])), (q 15, .inl (cI, 8, .inl (upd lg k x))), (q 16, .inl (cI, 8, .inl lp))] H := hP
    have hD : va_D A [(q 14, .inr (3, [.ref (q 15), .ref (q 16), .int (nI k)])), (q 15, .inl (cI, 8, .inl (upd lg k x))), (q 16, .inl (cI, 8, .inl lp))] := hD
    refine lv_aload_n hx hb dX3_add_19 rfl (lv_at hl 0 rfl) ?_
    refine va_get (D := (dC, dI)) (ci := 3) (v := .ref (q 16)) (C := RX3) (T := TX3) (N := 3) hx hb hts (by decide +kernel) hown hK hP 0 rfl rfl 1 (by decide) (hts (.fieldLink RX3 15 "AchromatDesk$LensSystem" "powers" "[I") (by decide +kernel)) (fun _ h9 => h9) rfl dX3_add_20 ?_
    refine lv_aload_n hx hb dX3_add_23 rfl (lv_at hl 0 rfl) ?_
    refine va_get (D := (dC, dI)) (ci := 3) (v := .int (nI k)) (C := RX3) (T := TX3) (N := 3) hx hb hts (by decide +kernel) hown hK hP 0 rfl rfl 2 (by decide) (hts (.fieldLink RX3 18 "AchromatDesk$LensSystem" "count" "I") (by decide +kernel)) (fun _ h9 => h9) rfl dX3_add_24 ?_
    refine lv_iload_n hx hb dX3_add_27 rfl (lv_at hl 2 rfl) ?_
    refine ar_iast hx hb hK hP hD hS 2 0 rfl rfl k rfl (by omega) (by omega) dX3_add_28 (fun H locs hP hD hS => ?_)
    have hP : va_P (dC, dI) vwCl [(q 14, .inr (3, [.ref (q 15), .ref (q 16), .int (nI k)])), (q 15, .inl (cI, 8, .inl (upd lg k x))), (q 16, .inl (cI, 8, .inl (upd lp k y)))] H := hP
    have hD : va_D A [(q 14, .inr (3, [.ref (q 15), .ref (q 16), .int (nI k)])), (q 15, .inl (cI, 8, .inl (upd lg k x))), (q 16, .inl (cI, 8, .inl (upd lp k y)))] := hD
    refine lv_aload_n hx hb dX3_add_29 rfl (lv_at hl 0 rfl) ?_
    refine lv_dup hx hb dX3_add_30 rfl ?_
    refine va_get (D := (dC, dI)) (ci := 3) (v := .int (nI k)) (C := RX3) (T := TX3) (N := 3) hx hb hts (by decide +kernel) hown hK hP 0 rfl rfl 2 (by decide) (hts (.fieldLink RX3 18 "AchromatDesk$LensSystem" "count" "I") (by decide +kernel)) (fun _ h9 => h9) rfl dX3_add_31 ?_
    refine lv_iconst (v := 1) hx hb dX3_add_34 (by decide) ?_
    refine lv_iadd hx hb dX3_add_35 ?_
    refine rw_topi (nI_add k 1) ?_
    refine va_put (D := (dC, dI)) (ci := 3) (v := .int (nI (k + 1))) (ty := .int) (C := RX3) (T := TX3) (N := 3) hx hb hts (by decide +kernel) tyX3 tyX3_ok nmX3 hown hK hP hD hS 0 rfl rfl 2 (by decide) (hts (.fieldLink RX3 18 "AchromatDesk$LensSystem" "count" "I") (by decide +kernel)) (fun _ h9 => h9) rfl (by decide +kernel) rfl rfl (Nat.le_of_ble_eq_true rfl) dX3_add_36 (fun H locs hP hD hS => ?_)
    have hP : va_P (dC, dI) vwCl [(q 14, .inr (3, [.ref (q 15), .ref (q 16), .int (nI (k + 1))])), (q 15, .inl (cI, 8, .inl (upd lg k x))), (q 16, .inl (cI, 8, .inl (upd lp k y)))] H := hP
    have hD : va_D A [(q 14, .inr (3, [.ref (q 15), .ref (q 16), .int (nI (k + 1))])), (q 15, .inl (cI, 8, .inl (upd lg k x))), (q 16, .inl (cI, 8, .inl (upd lp k y)))] := hD
    exact W.vret hx hb hr (fun t ht hW => ⟨⟨(), rfl, trivial, by rw [ht]; exact hP, by rw [hAe]; exact hD⟩, hS.F ht⟩) hS.2.2 dX3_add_39

set_option maxHeartbeats 4000000 in
set_option maxRecDepth 100000 in
theorem c_X3_remove (l : Launch) (dC : Nat → ClassId) (dI : Nat → Nat → Nat) (cI cJ : ClassId) (sz : Nat) (q : Nat → Nat) (lg lp : Nat → Int32) (k : Nat) (hk : k ≤ 8) (g : Nat) (hg : g < k) : Met l yX3_remove wsX3_remove ({ frames := 1, cells := 0, slots := 0, locals := 21 }) (va_Pc [.ref (q 14), .int (nI g)] (MU (dC, dI) (tyK cI cJ) ([(q 14, .inr (3, [.ref (q 15), .ref (q 16), .int (nI k)])), (q 15, .inl (cI, 8, .inl lg)), (q 16, .inl (cI, 8, .inl lp))]) sz)) (va_Qv (fun _ => True) (MB (dC, dI) ([(q 14, .inr (3, [.ref (q 15), .ref (q 16), .int (nI k)])), (q 15, .inl (cI, 8, .inl lg)), (q 16, .inl (cI, 8, .inl lp))]) sz (fun (_ : Unit) => [(q 14, .inr (3, [.ref (q 15), .ref (q 16), .int (nI (k - 1))])), (q 15, .inl (cI, 8, .inl (shf lg g k))), (q 16, .inl (cI, 8, .inl (shf lp g k)))])) (va_A ([(q 14, .inr (3, [.ref (q 15), .ref (q 16), .int (nI k)])), (q 15, .inl (cI, 8, .inl lg)), (q 16, .inl (cI, 8, .inl lp))]) sz)) 0 0 (va_A ([(q 14, .inr (3, [.ref (q 15), .ref (q 16), .int (nI k)])), (q 15, .inl (cI, 8, .inl lg)), (q 16, .inl (cI, 8, .inl lp))]) sz) := by
  refine Met.ofW (cc := cX3_remove) (maxL := 3) (ret := none) (by decide) rfl ?_
  intro p e s m args below meth c s₁ B hml hv
  obtain ⟨rfl, hsz, hP, hK, hN, hD0⟩ := hv
  have hx := B.exec
  have hb := B.bytes
  have hr := B.returns
  have hts := atoms_spec (ws := wsX3_remove) B.pre
  have hown : s.vm.findClass RX3 = some m.cls := findClass_of_methodNamed B.named
  have hlocks := B.notSynchronized
  subst hsz
  have hD := hD0.self (sz := s.heap.size)
  generalize hAe : va_A ([(q 14, .inr (3, [.ref (q 15), .ref (q 16), .int (nI k)])), (q 15, .inl (cI, 8, .inl lg)), (q 16, .inl (cI, 8, .inl lp))]) s.heap.size = A at hD ⊢
  have hA : ∀ q : Nat, s.heap.size ≤ q → A q := fun q h => by rw [← hAe]; exact Or.inr h
  have hS : va_S A s.heap s.heap [] := va_S.rf
  have hP : va_P (dC, dI) vwCl [(q 14, .inr (3, [.ref (q 15), .ref (q 16), .int (nI k)])), (q 15, .inl (cI, 8, .inl lg)), (q 16, .inl (cI, 8, .inl lp))] s.heap := hP
  have hD : va_D A [(q 14, .inr (3, [.ref (q 15), .ref (q 16), .int (nI k)])), (q 15, .inl (cI, 8, .inl lg)), (q 16, .inl (cI, 8, .inl lp))] := hD
  obtain ⟨H, hH⟩ : ∃ H : Heap, H = s.heap := ⟨_, rfl⟩
  obtain ⟨locs, hlc⟩ : ∃ locs : List Loc, locs = [] := ⟨_, rfl⟩
  have hl := lv_entry ([.ref (q 14), .int (nI g)]) (n := 3) (Nat.le_of_ble_eq_true rfl)
  rw [lg_entry_eq]
  generalize (lg_sl ([.ref (q 14), .int (nI g)]) ++ List.replicate (3 - (lg_sl ([.ref (q 14), .int (nI g)])).length) Slot.unset).toArray = ls at hl ⊢
  have hl : lv_has ls 3 [(0, .ref (q 14)), (1, .int (nI g))] := hl
  refine mu_in hH hlc (fun hS hP hD => ?_) hS hP hD
  clear hH hlc
  refine lv_aload_n hx hb dX3_remove_0 rfl (lv_at hl 0 rfl) ?_
  refine lv_iload_n hx hb dX3_remove_1 rfl (lv_at hl 1 rfl) ?_
  refine roVi (As := [.int (nI g)]) (rest := []) (c_X3_has l dC dI cI cJ q lg lp k hk (nI g)) ⟨hx, hb, hml, hown, hts⟩ (cwV 1 hts gX3_remove_X3_has rfl rfl rfl (by decide +kernel) ⟨Nat.le_of_ble_eq_true rfl, Nat.le_of_ble_eq_true rfl⟩) (hP.sub [0, 1, 2] rfl) hK hN (ci := 3) rfl rfl rfl hl.1 rfl (Nat.le_of_ble_eq_true rfl) dX3_remove_2 ⟨Nat.zero_le _, Nat.zero_le _⟩ (fun r hr0 => ?_)
  subst hr0
  refine rb_eq (tgt := 64) hx hb dX3_remove_5 (by decide) (fun h5 => ?_) (fun h5 => ?_)
  · exact absurd (hasP_nI (by omega) (by omega)) h5
  · refine lv_iload_n hx hb dX3_remove_8 rfl (lv_at hl 1 rfl) ?_
    refine lv_iconst (v := 1) hx hb dX3_remove_9 (by decide) ?_
    refine lv_iadd hx hb dX3_remove_10 ?_
    refine rw_topi (nI_add g 1) ?_
    refine lv_istore_n (lv' := [(2, .int (nI (g + 1))), (0, .ref (q 14)), (1, .int (nI g))]) hx hb dX3_remove_11 rfl hl (by decide) rfl (fun ls hl => ?_)
    refine rloopW (nL := 3) (D := (dC, dI)) (cl := vwCl) (A := A) (g + 1) k (fun _ z => z) () (fun k12 z12 => [(q 14, .inr (3, [.ref (q 15), .ref (q 16), .int (nI k)])), (q 15, .inl (cI, 8, .inl (shf lg g k12))), (q 16, .inl (cI, 8, .inl (shf lp g k12)))]) (fun k12 z12 => [(2, .int (nI k12)), (0, .ref (q 14)), (1, .int (nI g))]) (fun _ _ => True) (by omega) (trivial) (show va_P (dC, dI) vwCl [(q 14, .inr (3, [.ref (q 15), .ref (q 16), .int (nI k)])), (q 15, .inl (cI, 8, .inl (shf lg g (g + 1)))), (q 16, .inl (cI, 8, .inl (shf lp g (g + 1))))] H from by rw [shf_0, shf_0]; exact hP) (show va_D A [(q 14, .inr (3, [.ref (q 15), .ref (q 16), .int (nI k)])), (q 15, .inl (cI, 8, .inl (shf lg g (g + 1)))), (q 16, .inl (cI, 8, .inl (shf lp g (g + 1))))] from by rw [shf_0, shf_0]; exact hD) hS (lv_sub hl [0, 1, 2] rfl) (fun k12 z12 hlo12 hk12 hz12 hI12 H locs ls hP hD hS hl ih12 => ?_) (fun z12 hz12 hI12 H locs ls hP hD hS hl => ?_)
    · have hP : va_P (dC, dI) vwCl [(q 14, .inr (3, [.ref (q 15), .ref (q 16), .int (nI k)])), (q 15, .inl (cI, 8, .inl (shf lg g k12))), (q 16, .inl (cI, 8, .inl (shf lp g k12)))] H := hP
      have hD : va_D A [(q 14, .inr (3, [.ref (q 15), .ref (q 16), .int (nI k)])), (q 15, .inl (cI, 8, .inl (shf lg g k12))), (q 16, .inl (cI, 8, .inl (shf lp g k12)))] := hD
      refine lv_iload_n hx hb dX3_remove_12 rfl (lv_at hl 0 rfl) ?_
      refine lv_aload_n hx hb dX3_remove_13 rfl (lv_at hl 1 rfl) ?_
      refine va_get (D := (dC, dI)) (ci := 3) (v := .int (nI k)) (C := RX3) (T := TX3) (N := 3) hx hb hts (by decide +kernel) hown hK hP 0 rfl rfl 2 (by decide) (hts (.fieldLink RX3 18 "AchromatDesk$LensSystem" "count" "I") (by decide +kernel)) (fun _ h9 => h9) rfl dX3_remove_14 ?_
      refine rn_ge (tgt := 54) hx hb k12 k rfl rfl (by omega) (by omega) dX3_remove_17 (by decide) (fun h17 => ?_) (fun h17 => ?_)
      · exfalso; omega
      · refine lv_aload_n hx hb dX3_remove_20 rfl (lv_at hl 1 rfl) ?_
        refine va_get (D := (dC, dI)) (ci := 3) (v := .ref (q 15)) (C := RX3) (T := TX3) (N := 3) hx hb hts (by decide +kernel) hown hK hP 0 rfl rfl 0 (by decide) (hts (.fieldLink RX3 9 "AchromatDesk$LensSystem" "glassNumbers" "[I") (by decide +kernel)) (fun _ h9 => h9) rfl dX3_remove_21 ?_
        refine lv_iload_n hx hb dX3_remove_24 rfl (lv_at hl 0 rfl) ?_
        refine lv_iconst (v := 1) hx hb dX3_remove_25 (by decide) ?_
        refine lv_isub hx hb dX3_remove_26 ?_
        refine rw_topi (show ((nI k12) - 1 : Int32) = (nI (k12 - 1) : Int32) from pk_sub (b := 1) (by omega)) ?_
        refine lv_aload_n hx hb dX3_remove_27 rfl (lv_at hl 1 rfl) ?_
        refine va_get (D := (dC, dI)) (ci := 3) (v := .ref (q 15)) (C := RX3) (T := TX3) (N := 3) hx hb hts (by decide +kernel) hown hK hP 0 rfl rfl 0 (by decide) (hts (.fieldLink RX3 9 "AchromatDesk$LensSystem" "glassNumbers" "[I") (by decide +kernel)) (fun _ h9 => h9) rfl dX3_remove_28 ?_
        refine lv_iload_n hx hb dX3_remove_31 rfl (lv_at hl 0 rfl) ?_
        refine ar_iald hx hb hK hP 1 0 rfl rfl k12 rfl (by omega) (by omega) dX3_remove_32 ?_
        refine rw_topi (show ((shf lg g k12) k12 : Int32) = (lg k12 : Int32) from shf_at _ _ _) ?_
        refine ar_iast hx hb hK hP hD hS 1 0 rfl rfl (k12 - 1) rfl (by omega) (by omega) dX3_remove_33 (fun H locs hP hD hS => ?_)
        have hP : va_P (dC, dI) vwCl [(q 14, .inr (3, [.ref (q 15), .ref (q 16), .int (nI k)])), (q 15, .inl (cI, 8, .inl (upd (shf lg g k12) (k12 - 1) (lg k12)))), (q 16, .inl (cI, 8, .inl (shf lp g k12)))] H := hP
        have hD : va_D A [(q 14, .inr (3, [.ref (q 15), .ref (q 16), .int (nI k)])), (q 15, .inl (cI, 8, .inl (upd (shf lg g k12) (k12 - 1) (lg k12)))), (q 16, .inl (cI, 8, .inl (shf lp g k12)))] := hD
        refine lv_aload_n hx hb dX3_remove_34 rfl (lv_at hl 1 rfl) ?_
        refine va_get (D := (dC, dI)) (ci := 3) (v := .ref (q 16)) (C := RX3) (T := TX3) (N := 3) hx hb hts (by decide +kernel) hown hK hP 0 rfl rfl 1 (by decide) (hts (.fieldLink RX3 15 "AchromatDesk$LensSystem" "powers" "[I") (by decide +kernel)) (fun _ h9 => h9) rfl dX3_remove_35 ?_
        refine lv_iload_n hx hb dX3_remove_38 rfl (lv_at hl 0 rfl) ?_
        refine lv_iconst (v := 1) hx hb dX3_remove_39 (by decide) ?_
        refine lv_isub hx hb dX3_remove_40 ?_
        refine rw_topi (show ((nI k12) - 1 : Int32) = (nI (k12 - 1) : Int32) from pk_sub (b := 1) (by omega)) ?_
        refine lv_aload_n hx hb dX3_remove_41 rfl (lv_at hl 1 rfl) ?_
        refine va_get (D := (dC, dI)) (ci := 3) (v := .ref (q 16)) (C := RX3) (T := TX3) (N := 3) hx hb hts (by decide +kernel) hown hK hP 0 rfl rfl 1 (by decide) (hts (.fieldLink RX3 15 "AchromatDesk$LensSystem" "powers" "[I") (by decide +kernel)) (fun _ h9 => h9) rfl dX3_remove_42 ?_
        refine lv_iload_n hx hb dX3_remove_45 rfl (lv_at hl 0 rfl) ?_
        refine ar_iald hx hb hK hP 2 0 rfl rfl k12 rfl (by omega) (by omega) dX3_remove_46 ?_
        refine rw_topi (show ((shf lp g k12) k12 : Int32) = (lp k12 : Int32) from shf_at _ _ _) ?_
        refine ar_iast hx hb hK hP hD hS 2 0 rfl rfl (k12 - 1) rfl (by omega) (by omega) dX3_remove_47 (fun H locs hP hD hS => ?_)
        have hP : va_P (dC, dI) vwCl [(q 14, .inr (3, [.ref (q 15), .ref (q 16), .int (nI k)])), (q 15, .inl (cI, 8, .inl (upd (shf lg g k12) (k12 - 1) (lg k12)))), (q 16, .inl (cI, 8, .inl (upd (shf lp g k12) (k12 - 1) (lp k12))))] H := hP
        have hD : va_D A [(q 14, .inr (3, [.ref (q 15), .ref (q 16), .int (nI k)])), (q 15, .inl (cI, 8, .inl (upd (shf lg g k12) (k12 - 1) (lg k12)))), (q 16, .inl (cI, 8, .inl (upd (shf lp g k12) (k12 - 1) (lp k12))))] := hD
        refine lv_iinc (v := nI (k12 + 1)) (lv' := [(2, .int (nI (k12 + 1))), (0, .ref (q 14)), (1, .int (nI g))]) hx hb dX3_remove_48 hl (k := 0) rfl (by first | rfl | exact nI_add _ _) (by decide) rfl (fun ls hl => ?_)
        refine lv_goto (tgt := 12) hx hb dX3_remove_51 (by decide) ?_
        exact ih12 () (rfl) (trivial) H locs ls (show va_P (dC, dI) vwCl [(q 14, .inr (3, [.ref (q 15), .ref (q 16), .int (nI k)])), (q 15, .inl (cI, 8, .inl (shf lg g (k12 + 1)))), (q 16, .inl (cI, 8, .inl (shf lp g (k12 + 1))))] H from by rw [← shf_s lg hlo12, ← shf_s lp hlo12]; exact hP) (show va_D A [(q 14, .inr (3, [.ref (q 15), .ref (q 16), .int (nI k)])), (q 15, .inl (cI, 8, .inl (shf lg g (k12 + 1)))), (q 16, .inl (cI, 8, .inl (shf lp g (k12 + 1))))] from by rw [← shf_s lg hlo12, ← shf_s lp hlo12]; exact hD) hS (lv_sub hl [0, 1, 2] rfl)
    · have hP : va_P (dC, dI) vwCl [(q 14, .inr (3, [.ref (q 15), .ref (q 16), .int (nI k)])), (q 15, .inl (cI, 8, .inl (shf lg g k))), (q 16, .inl (cI, 8, .inl (shf lp g k)))] H := hP
      have hD : va_D A [(q 14, .inr (3, [.ref (q 15), .ref (q 16), .int (nI k)])), (q 15, .inl (cI, 8, .inl (shf lg g k))), (q 16, .inl (cI, 8, .inl (shf lp g k)))] := hD
      refine lv_iload_n hx hb dX3_remove_12 rfl (lv_at hl 0 rfl) ?_
      refine lv_aload_n hx hb dX3_remove_13 rfl (lv_at hl 1 rfl) ?_
      refine va_get (D := (dC, dI)) (ci := 3) (v := .int (nI k)) (C := RX3) (T := TX3) (N := 3) hx hb hts (by decide +kernel) hown hK hP 0 rfl rfl 2 (by decide) (hts (.fieldLink RX3 18 "AchromatDesk$LensSystem" "count" "I") (by decide +kernel)) (fun _ h9 => h9) rfl dX3_remove_14 ?_
      refine rn_ge (tgt := 54) hx hb k k rfl rfl (by omega) (by omega) dX3_remove_17 (by decide) (fun h17 => ?_) (fun h17 => ?_)
      · refine lv_aload_n hx hb dX3_remove_54 rfl (lv_at hl 1 rfl) ?_
        refine lv_dup hx hb dX3_remove_55 rfl ?_
        refine va_get (D := (dC, dI)) (ci := 3) (v := .int (nI k)) (C := RX3) (T := TX3) (N := 3) hx hb hts (by decide +kernel) hown hK hP 0 rfl rfl 2 (by decide) (hts (.fieldLink RX3 18 "AchromatDesk$LensSystem" "count" "I") (by decide +kernel)) (fun _ h9 => h9) rfl dX3_remove_56 ?_
        refine lv_iconst (v := 1) hx hb dX3_remove_59 (by decide) ?_
        refine lv_isub hx hb dX3_remove_60 ?_
        refine rw_topi (show ((nI k) - 1 : Int32) = (nI (k - 1) : Int32) from pk_sub (b := 1) (by omega)) ?_
        refine va_put (D := (dC, dI)) (ci := 3) (v := .int (nI (k - 1))) (ty := .int) (C := RX3) (T := TX3) (N := 3) hx hb hts (by decide +kernel) tyX3 tyX3_ok nmX3 hown hK hP hD hS 0 rfl rfl 2 (by decide) (hts (.fieldLink RX3 18 "AchromatDesk$LensSystem" "count" "I") (by decide +kernel)) (fun _ h9 => h9) rfl (by decide +kernel) rfl rfl (Nat.le_of_ble_eq_true rfl) dX3_remove_61 (fun H locs hP hD hS => ?_)
        have hP : va_P (dC, dI) vwCl [(q 14, .inr (3, [.ref (q 15), .ref (q 16), .int (nI (k - 1))])), (q 15, .inl (cI, 8, .inl (shf lg g k))), (q 16, .inl (cI, 8, .inl (shf lp g k)))] H := hP
        have hD : va_D A [(q 14, .inr (3, [.ref (q 15), .ref (q 16), .int (nI (k - 1))])), (q 15, .inl (cI, 8, .inl (shf lg g k))), (q 16, .inl (cI, 8, .inl (shf lp g k)))] := hD
        exact W.vret hx hb hr (fun t ht hW => ⟨⟨(), rfl, trivial, by rw [ht]; exact hP, by rw [hAe]; exact hD⟩, hS.F ht⟩) hS.2.2 dX3_remove_64
      · exfalso; omega

set_option maxHeartbeats 4000000 in
set_option maxRecDepth 100000 in
theorem c_X3_closeGapAt (l : Launch) (dC : Nat → ClassId) (dI : Nat → Nat → Nat) (cI cJ : ClassId) (sz : Nat) (q : Nat → Nat) (lg lp : Nat → Int32) (k : Nat) (hk : k ≤ 8) (x : Int32) : Met l yX3_closeGapAt wsX3_closeGapAt ({ frames := 0, cells := 0, slots := 0, locals := 0 }) (va_Pc [.ref (q 14), .int x] (MU (dC, dI) (tyK cI cJ) ([(q 14, .inr (3, [.ref (q 15), .ref (q 16), .int (nI k)])), (q 15, .inl (cI, 8, .inl lg)), (q 16, .inl (cI, 8, .inl lp))]) sz)) (va_Qv (fun _ => True) (MB (dC, dI) ([(q 14, .inr (3, [.ref (q 15), .ref (q 16), .int (nI k)])), (q 15, .inl (cI, 8, .inl lg)), (q 16, .inl (cI, 8, .inl lp))]) sz (fun (_ : Unit) => [(q 14, .inr (3, [.ref (q 15), .ref (q 16), .int (nI k)])), (q 15, .inl (cI, 8, .inl (cg lg x k))), (q 16, .inl (cI, 8, .inl lp))])) (va_A ([(q 14, .inr (3, [.ref (q 15), .ref (q 16), .int (nI k)])), (q 15, .inl (cI, 8, .inl lg)), (q 16, .inl (cI, 8, .inl lp))]) sz)) 0 0 (va_A ([(q 14, .inr (3, [.ref (q 15), .ref (q 16), .int (nI k)])), (q 15, .inl (cI, 8, .inl lg)), (q 16, .inl (cI, 8, .inl lp))]) sz) := by
  refine Met.ofW (cc := cX3_closeGapAt) (maxL := 3) (ret := none) (by decide) rfl ?_
  intro p e s m args below meth c s₁ B hml hv
  obtain ⟨rfl, hsz, hP, hK, hN, hD0⟩ := hv
  have hx := B.exec
  have hb := B.bytes
  have hr := B.returns
  have hts := atoms_spec (ws := wsX3_closeGapAt) B.pre
  have hown : s.vm.findClass RX3 = some m.cls := findClass_of_methodNamed B.named
  have hlocks := B.notSynchronized
  subst hsz
  have hD := hD0.self (sz := s.heap.size)
  generalize hAe : va_A ([(q 14, .inr (3, [.ref (q 15), .ref (q 16), .int (nI k)])), (q 15, .inl (cI, 8, .inl lg)), (q 16, .inl (cI, 8, .inl lp))]) s.heap.size = A at hD ⊢
  have hA : ∀ q : Nat, s.heap.size ≤ q → A q := fun q h => by rw [← hAe]; exact Or.inr h
  have hS : va_S A s.heap s.heap [] := va_S.rf
  have hP : va_P (dC, dI) vwCl [(q 14, .inr (3, [.ref (q 15), .ref (q 16), .int (nI k)])), (q 15, .inl (cI, 8, .inl lg)), (q 16, .inl (cI, 8, .inl lp))] s.heap := hP
  have hD : va_D A [(q 14, .inr (3, [.ref (q 15), .ref (q 16), .int (nI k)])), (q 15, .inl (cI, 8, .inl lg)), (q 16, .inl (cI, 8, .inl lp))] := hD
  obtain ⟨H, hH⟩ : ∃ H : Heap, H = s.heap := ⟨_, rfl⟩
  obtain ⟨locs, hlc⟩ : ∃ locs : List Loc, locs = [] := ⟨_, rfl⟩
  have hl := lv_entry ([.ref (q 14), .int x]) (n := 3) (Nat.le_of_ble_eq_true rfl)
  rw [lg_entry_eq]
  generalize (lg_sl ([.ref (q 14), .int x]) ++ List.replicate (3 - (lg_sl ([.ref (q 14), .int x])).length) Slot.unset).toArray = ls at hl ⊢
  have hl : lv_has ls 3 [(0, .ref (q 14)), (1, .int x)] := hl
  refine mu_in hH hlc (fun hS hP hD => ?_) hS hP hD
  clear hH hlc
  refine lv_iconst (v := 0) hx hb dX3_closeGapAt_0 (by decide) ?_
  refine lv_istore_n (lv' := [(2, .int 0), (0, .ref (q 14)), (1, .int x)]) hx hb dX3_closeGapAt_1 rfl hl (by decide) rfl (fun ls hl => ?_)
  refine rloopW (nL := 3) (D := (dC, dI)) (cl := vwCl) (A := A) 0 k (fun _ z => z) () (fun k2 z2 => [(q 14, .inr (3, [.ref (q 15), .ref (q 16), .int (nI k)])), (q 15, .inl (cI, 8, .inl (cg lg x k2))), (q 16, .inl (cI, 8, .inl lp))]) (fun k2 z2 => [(2, .int (nI k2)), (0, .ref (q 14)), (1, .int x)]) (fun _ _ => True) (by omega) (trivial) (show va_P (dC, dI) vwCl [(q 14, .inr (3, [.ref (q 15), .ref (q 16), .int (nI k)])), (q 15, .inl (cI, 8, .inl (cg lg x 0))), (q 16, .inl (cI, 8, .inl lp))] H from by rw [cg_0]; exact hP) (show va_D A [(q 14, .inr (3, [.ref (q 15), .ref (q 16), .int (nI k)])), (q 15, .inl (cI, 8, .inl (cg lg x 0))), (q 16, .inl (cI, 8, .inl lp))] from by rw [cg_0]; exact hD) hS (lv_sub hl [0, 1, 2] rfl) (fun k2 z2 hlo2 hk2 hz2 hI2 H locs ls hP hD hS hl ih2 => ?_) (fun z2 hz2 hI2 H locs ls hP hD hS hl => ?_)
  · have hP : va_P (dC, dI) vwCl [(q 14, .inr (3, [.ref (q 15), .ref (q 16), .int (nI k)])), (q 15, .inl (cI, 8, .inl (cg lg x k2))), (q 16, .inl (cI, 8, .inl lp))] H := hP
    have hD : va_D A [(q 14, .inr (3, [.ref (q 15), .ref (q 16), .int (nI k)])), (q 15, .inl (cI, 8, .inl (cg lg x k2))), (q 16, .inl (cI, 8, .inl lp))] := hD
    refine lv_iload_n hx hb dX3_closeGapAt_2 rfl (lv_at hl 0 rfl) ?_
    refine lv_aload_n hx hb dX3_closeGapAt_3 rfl (lv_at hl 1 rfl) ?_
    refine va_get (D := (dC, dI)) (ci := 3) (v := .int (nI k)) (C := RX3) (T := TX3) (N := 3) hx hb hts (by decide +kernel) hown hK hP 0 rfl rfl 2 (by decide) (hts (.fieldLink RX3 18 "AchromatDesk$LensSystem" "count" "I") (by decide +kernel)) (fun _ h9 => h9) rfl dX3_closeGapAt_4 ?_
    refine rn_ge (tgt := 36) hx hb k2 k rfl rfl (by omega) (by omega) dX3_closeGapAt_7 (by decide) (fun h7 => ?_) (fun h7 => ?_)
    · exfalso; omega
    · refine lv_aload_n hx hb dX3_closeGapAt_10 rfl (lv_at hl 1 rfl) ?_
      refine va_get (D := (dC, dI)) (ci := 3) (v := .ref (q 15)) (C := RX3) (T := TX3) (N := 3) hx hb hts (by decide +kernel) hown hK hP 0 rfl rfl 0 (by decide) (hts (.fieldLink RX3 9 "AchromatDesk$LensSystem" "glassNumbers" "[I") (by decide +kernel)) (fun _ h9 => h9) rfl dX3_closeGapAt_11 ?_
      refine lv_iload_n hx hb dX3_closeGapAt_14 rfl (lv_at hl 0 rfl) ?_
      refine ar_iald hx hb hK hP 1 0 rfl rfl k2 rfl (by omega) (by omega) dX3_closeGapAt_15 ?_
      refine rw_topi (show ((cg lg x k2) k2 : Int32) = (lg k2 : Int32) from cg_at _ _ _) ?_
      refine lv_iload_n hx hb dX3_closeGapAt_16 rfl (lv_at hl 2 rfl) ?_
      refine lv_icmp_le (tgt := 30) hx hb dX3_closeGapAt_17 (by decide) (fun h17 => ?_) (fun h17 => ?_)
      · refine lv_iinc (v := nI (k2 + 1)) (lv' := [(2, .int (nI (k2 + 1))), (0, .ref (q 14)), (1, .int x)]) hx hb dX3_closeGapAt_30 hl (k := 0) rfl (by first | rfl | exact nI_add _ _) (by decide) rfl (fun ls hl => ?_)
        refine lv_goto (tgt := 2) hx hb dX3_closeGapAt_33 (by decide) ?_
        exact ih2 () (rfl) (trivial) H locs ls (show va_P (dC, dI) vwCl [(q 14, .inr (3, [.ref (q 15), .ref (q 16), .int (nI k)])), (q 15, .inl (cI, 8, .inl (cg lg x (k2 + 1)))), (q 16, .inl (cI, 8, .inl lp))] H from by rw [← cg_n (Int32.not_lt.mpr h17)]; exact hP) (show va_D A [(q 14, .inr (3, [.ref (q 15), .ref (q 16), .int (nI k)])), (q 15, .inl (cI, 8, .inl (cg lg x (k2 + 1)))), (q 16, .inl (cI, 8, .inl lp))] from by rw [← cg_n (Int32.not_lt.mpr h17)]; exact hD) hS (lv_sub hl [0, 1, 2] rfl)
      · refine lv_aload_n hx hb dX3_closeGapAt_20 rfl (lv_at hl 1 rfl) ?_
        refine va_get (D := (dC, dI)) (ci := 3) (v := .ref (q 15)) (C := RX3) (T := TX3) (N := 3) hx hb hts (by decide +kernel) hown hK hP 0 rfl rfl 0 (by decide) (hts (.fieldLink RX3 9 "AchromatDesk$LensSystem" "glassNumbers" "[I") (by decide +kernel)) (fun _ h9 => h9) rfl dX3_closeGapAt_21 ?_
        refine lv_iload_n hx hb dX3_closeGapAt_24 rfl (lv_at hl 0 rfl) ?_
        refine lv_dup2_11 hx hb dX3_closeGapAt_25 rfl rfl ?_
        refine ar_iald hx hb hK hP 1 0 rfl rfl k2 rfl (by omega) (by omega) dX3_closeGapAt_26 ?_
        refine rw_topi (show ((cg lg x k2) k2 : Int32) = (lg k2 : Int32) from cg_at _ _ _) ?_
        refine lv_iconst (v := 1) hx hb dX3_closeGapAt_27 (by decide) ?_
        refine lv_isub hx hb dX3_closeGapAt_28 ?_
        refine ar_iast hx hb hK hP hD hS 1 0 rfl rfl k2 rfl (by omega) (by omega) dX3_closeGapAt_29 (fun H locs hP hD hS => ?_)
        have hP : va_P (dC, dI) vwCl [(q 14, .inr (3, [.ref (q 15), .ref (q 16), .int (nI k)])), (q 15, .inl (cI, 8, .inl (upd (cg lg x k2) k2 ((lg k2) - 1)))), (q 16, .inl (cI, 8, .inl lp))] H := hP
        have hD : va_D A [(q 14, .inr (3, [.ref (q 15), .ref (q 16), .int (nI k)])), (q 15, .inl (cI, 8, .inl (upd (cg lg x k2) k2 ((lg k2) - 1)))), (q 16, .inl (cI, 8, .inl lp))] := hD
        refine lv_iinc (v := nI (k2 + 1)) (lv' := [(2, .int (nI (k2 + 1))), (0, .ref (q 14)), (1, .int x)]) hx hb dX3_closeGapAt_30 hl (k := 0) rfl (by first | rfl | exact nI_add _ _) (by decide) rfl (fun ls hl => ?_)
        refine lv_goto (tgt := 2) hx hb dX3_closeGapAt_33 (by decide) ?_
        exact ih2 () (rfl) (trivial) H locs ls (show va_P (dC, dI) vwCl [(q 14, .inr (3, [.ref (q 15), .ref (q 16), .int (nI k)])), (q 15, .inl (cI, 8, .inl (cg lg x (k2 + 1)))), (q 16, .inl (cI, 8, .inl lp))] H from by rw [← cg_y (Int32.not_le.mp h17)]; exact hP) (show va_D A [(q 14, .inr (3, [.ref (q 15), .ref (q 16), .int (nI k)])), (q 15, .inl (cI, 8, .inl (cg lg x (k2 + 1)))), (q 16, .inl (cI, 8, .inl lp))] from by rw [← cg_y (Int32.not_le.mp h17)]; exact hD) hS (lv_sub hl [0, 1, 2] rfl)
  · have hP : va_P (dC, dI) vwCl [(q 14, .inr (3, [.ref (q 15), .ref (q 16), .int (nI k)])), (q 15, .inl (cI, 8, .inl (cg lg x k))), (q 16, .inl (cI, 8, .inl lp))] H := hP
    have hD : va_D A [(q 14, .inr (3, [.ref (q 15), .ref (q 16), .int (nI k)])), (q 15, .inl (cI, 8, .inl (cg lg x k))), (q 16, .inl (cI, 8, .inl lp))] := hD
    refine lv_iload_n hx hb dX3_closeGapAt_2 rfl (lv_at hl 0 rfl) ?_
    refine lv_aload_n hx hb dX3_closeGapAt_3 rfl (lv_at hl 1 rfl) ?_
    refine va_get (D := (dC, dI)) (ci := 3) (v := .int (nI k)) (C := RX3) (T := TX3) (N := 3) hx hb hts (by decide +kernel) hown hK hP 0 rfl rfl 2 (by decide) (hts (.fieldLink RX3 18 "AchromatDesk$LensSystem" "count" "I") (by decide +kernel)) (fun _ h9 => h9) rfl dX3_closeGapAt_4 ?_
    refine rn_ge (tgt := 36) hx hb k k rfl rfl (by omega) (by omega) dX3_closeGapAt_7 (by decide) (fun h7 => ?_) (fun h7 => ?_)
    · exact W.vret hx hb hr (fun t ht hW => ⟨⟨(), rfl, trivial, by rw [ht]; exact hP, by rw [hAe]; exact hD⟩, hS.F ht⟩) hS.2.2 dX3_closeGapAt_36
    · exfalso; omega

set_option maxHeartbeats 4000000 in
set_option maxRecDepth 100000 in
theorem c_X4_add (l : Launch) (dC : Nat → ClassId) (dI : Nat → Nat → Nat) (cI cJ : ClassId) (sz : Nat) (q : Nat → Nat) (rd : Nat → Int32) (np : Nat) (hp : np ≤ 16) (h16 : np < 16) (x : Int32) : Met l yX4_add wsX4_add ({ frames := 0, cells := 0, slots := 0, locals := 0 }) (va_Pc [.ref (q 17), .int x] (MU (dC, dI) (tyK cI cJ) ([(q 17, .inr (4, [.ref (q 18), .int (nI np)])), (q 18, .inl (cI, 16, .inl rd))]) sz)) (va_Qv (fun _ => True) (MB (dC, dI) ([(q 17, .inr (4, [.ref (q 18), .int (nI np)])), (q 18, .inl (cI, 16, .inl rd))]) sz (fun (_ : Unit) => [(q 17, .inr (4, [.ref (q 18), .int (nI (np + 1))])), (q 18, .inl (cI, 16, .inl (upd rd np x)))])) (va_A ([(q 17, .inr (4, [.ref (q 18), .int (nI np)])), (q 18, .inl (cI, 16, .inl rd))]) sz)) 0 0 (va_A ([(q 17, .inr (4, [.ref (q 18), .int (nI np)])), (q 18, .inl (cI, 16, .inl rd))]) sz) := by
  refine Met.ofW (cc := cX4_add) (maxL := 2) (ret := none) (by decide) rfl ?_
  intro p e s m args below meth c s₁ B hml hv
  obtain ⟨rfl, hsz, hP, hK, hN, hD0⟩ := hv
  have hx := B.exec
  have hb := B.bytes
  have hr := B.returns
  have hts := atoms_spec (ws := wsX4_add) B.pre
  have hown : s.vm.findClass RX4 = some m.cls := findClass_of_methodNamed B.named
  have hlocks := B.notSynchronized
  subst hsz
  have hD := hD0.self (sz := s.heap.size)
  generalize hAe : va_A ([(q 17, .inr (4, [.ref (q 18), .int (nI np)])), (q 18, .inl (cI, 16, .inl rd))]) s.heap.size = A at hD ⊢
  have hA : ∀ q : Nat, s.heap.size ≤ q → A q := fun q h => by rw [← hAe]; exact Or.inr h
  have hS : va_S A s.heap s.heap [] := va_S.rf
  have hP : va_P (dC, dI) vwCl [(q 17, .inr (4, [.ref (q 18), .int (nI np)])), (q 18, .inl (cI, 16, .inl rd))] s.heap := hP
  have hD : va_D A [(q 17, .inr (4, [.ref (q 18), .int (nI np)])), (q 18, .inl (cI, 16, .inl rd))] := hD
  obtain ⟨H, hH⟩ : ∃ H : Heap, H = s.heap := ⟨_, rfl⟩
  obtain ⟨locs, hlc⟩ : ∃ locs : List Loc, locs = [] := ⟨_, rfl⟩
  have hl := lv_entry ([.ref (q 17), .int x]) (n := 2) (Nat.le_of_ble_eq_true rfl)
  rw [lg_entry_eq]
  generalize (lg_sl ([.ref (q 17), .int x]) ++ List.replicate (2 - (lg_sl ([.ref (q 17), .int x])).length) Slot.unset).toArray = ls at hl ⊢
  have hl : lv_has ls 2 [(0, .ref (q 17)), (1, .int x)] := hl
  refine mu_in hH hlc (fun hS hP hD => ?_) hS hP hD
  clear hH hlc
  refine lv_aload_n hx hb dX4_add_0 rfl (lv_at hl 0 rfl) ?_
  refine va_get (D := (dC, dI)) (ci := 4) (v := .int (nI np)) (C := RX4) (T := TX4) (N := 2) hx hb hts (by decide +kernel) hown hK hP 0 rfl rfl 1 (by decide) (hts (.fieldLink RX4 15 "AchromatDesk$PlateSet" "count" "I") (by decide +kernel)) (fun _ h9 => h9) rfl dX4_add_1 ?_
  refine lv_bipush (v := 16) hx hb dX4_add_4 (by decide) ?_
  refine rn_ge (tgt := 29) hx hb np 16 rfl rfl (by omega) (by omega) dX4_add_6 (by decide) (fun h6 => ?_) (fun h6 => ?_)
  · exfalso; omega
  · refine lv_aload_n hx hb dX4_add_9 rfl (lv_at hl 0 rfl) ?_
    refine va_get (D := (dC, dI)) (ci := 4) (v := .ref (q 18)) (C := RX4) (T := TX4) (N := 2) hx hb hts (by decide +kernel) hown hK hP 0 rfl rfl 0 (by decide) (hts (.fieldLink RX4 9 "AchromatDesk$PlateSet" "radii" "[I") (by decide +kernel)) (fun _ h9 => h9) rfl dX4_add_10 ?_
    refine lv_aload_n hx hb dX4_add_13 rfl (lv_at hl 0 rfl) ?_
    refine va_get (D := (dC, dI)) (ci := 4) (v := .int (nI np)) (C := RX4) (T := TX4) (N := 2) hx hb hts (by decide +kernel) hown hK hP 0 rfl rfl 1 (by decide) (hts (.fieldLink RX4 15 "AchromatDesk$PlateSet" "count" "I") (by decide +kernel)) (fun _ h9 => h9) rfl dX4_add_14 ?_
    refine lv_iload_n hx hb dX4_add_17 rfl (lv_at hl 1 rfl) ?_
    refine ar_iast hx hb hK hP hD hS 1 0 rfl rfl np rfl (by omega) (by omega) dX4_add_18 (fun H locs hP hD hS => ?_)
    have hP : va_P (dC, dI) vwCl [(q 17, .inr (4, [.ref (q 18), .int (nI np)])), (q 18, .inl (cI, 16, .inl (upd rd np x)))] H := hP
    have hD : va_D A [(q 17, .inr (4, [.ref (q 18), .int (nI np)])), (q 18, .inl (cI, 16, .inl (upd rd np x)))] := hD
    refine lv_aload_n hx hb dX4_add_19 rfl (lv_at hl 0 rfl) ?_
    refine lv_dup hx hb dX4_add_20 rfl ?_
    refine va_get (D := (dC, dI)) (ci := 4) (v := .int (nI np)) (C := RX4) (T := TX4) (N := 2) hx hb hts (by decide +kernel) hown hK hP 0 rfl rfl 1 (by decide) (hts (.fieldLink RX4 15 "AchromatDesk$PlateSet" "count" "I") (by decide +kernel)) (fun _ h9 => h9) rfl dX4_add_21 ?_
    refine lv_iconst (v := 1) hx hb dX4_add_24 (by decide) ?_
    refine lv_iadd hx hb dX4_add_25 ?_
    refine rw_topi (nI_add np 1) ?_
    refine va_put (D := (dC, dI)) (ci := 4) (v := .int (nI (np + 1))) (ty := .int) (C := RX4) (T := TX4) (N := 2) hx hb hts (by decide +kernel) tyX4 tyX4_ok nmX4 hown hK hP hD hS 0 rfl rfl 1 (by decide) (hts (.fieldLink RX4 15 "AchromatDesk$PlateSet" "count" "I") (by decide +kernel)) (fun _ h9 => h9) rfl (by decide +kernel) rfl rfl (Nat.le_of_ble_eq_true rfl) dX4_add_26 (fun H locs hP hD hS => ?_)
    have hP : va_P (dC, dI) vwCl [(q 17, .inr (4, [.ref (q 18), .int (nI (np + 1))])), (q 18, .inl (cI, 16, .inl (upd rd np x)))] H := hP
    have hD : va_D A [(q 17, .inr (4, [.ref (q 18), .int (nI (np + 1))])), (q 18, .inl (cI, 16, .inl (upd rd np x)))] := hD
    exact W.vret hx hb hr (fun t ht hW => ⟨⟨(), rfl, trivial, by rw [ht]; exact hP, by rw [hAe]; exact hD⟩, hS.F ht⟩) hS.2.2 dX4_add_29
