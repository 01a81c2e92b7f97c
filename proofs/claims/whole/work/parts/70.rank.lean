set_option maxHeartbeats 4000000 in
set_option maxRecDepth 100000 in
theorem c_X1_compareSlots (l : Launch) (dC : Nat → ClassId) (dI : Nat → Nat → Nat) (cI cJ : ClassId) (q : Nat → Nat) (dn : Nat) (dc : Nat → Int32) (dd ds dt : Nat → Int64) (od : Nat → Int32) (a b : Nat) (ha : a < 190) (hb0 : b < 190) (bs : Int32) : Met l yX1_compareSlots wsX1_compareSlots ({ frames := 1, cells := 0, slots := 0, locals := 23 }) (va_Pc [.ref (q 8), .int (nI a), .int (nI b), .int bs] (RO (dC, dI) (tyK cI cJ) ([(q 8, .inr (1, [.ref (q 9), .ref (q 10), .ref (q 11), .ref (q 12), .ref (q 13), .int (nI dn)])), (q 9, .inl (cI, 190, .inl dc)), (q 10, .inl (cJ, 190, .inr (.inl dd))), (q 11, .inl (cJ, 190, .inr (.inl ds))), (q 12, .inl (cJ, 190, .inr (.inl dt))), (q 13, .inl (cI, 190, .inl od))]))) (vp_Si (fun r => r = cmpS dd ds dt bs a b)) 0 0 (fun _ => False) := by
  refine Met.ofW (cc := cX1_compareSlots) (maxL := 6) (ret := (some .int)) (by decide) rfl ?_
  intro p e s m args below meth c s₁ B hml hv
  obtain ⟨rfl, hP, hK, hN⟩ := hv
  have hx := B.exec
  have hb := B.bytes
  have hr := B.returns
  have hts := atoms_spec (ws := wsX1_compareSlots) B.pre
  have hown : s.vm.findClass RX1 = some m.cls := findClass_of_methodNamed B.named
  have hlocks := B.notSynchronized
  have hP : va_P (dC, dI) vwCl [(q 8, .inr (1, [.ref (q 9), .ref (q 10), .ref (q 11), .ref (q 12), .ref (q 13), .int (nI dn)])), (q 9, .inl (cI, 190, .inl dc)), (q 10, .inl (cJ, 190, .inr (.inl dd))), (q 11, .inl (cJ, 190, .inr (.inl ds))), (q 12, .inl (cJ, 190, .inr (.inl dt))), (q 13, .inl (cI, 190, .inl od))] s.heap := hP
  have hl := lv_entry ([.ref (q 8), .int (nI a), .int (nI b), .int bs]) (n := 6) (Nat.le_of_ble_eq_true rfl)
  rw [lg_entry_eq]
  generalize (lg_sl ([.ref (q 8), .int (nI a), .int (nI b), .int bs]) ++ List.replicate (6 - (lg_sl ([.ref (q 8), .int (nI a), .int (nI b), .int bs])).length) Slot.unset).toArray = ls at hl ⊢
  have hl : lv_has ls 6 [(0, .ref (q 8)), (1, .int (nI a)), (2, .int (nI b)), (3, .int bs)] := hl
  refine lv_aload_n hx hb dX1_compareSlots_0 rfl (lv_at hl 0 rfl) ?_
  refine va_get (D := (dC, dI)) (ci := 1) (v := .ref (q 11)) (C := RX1) (T := TX1) (N := 6) hx hb hts (by decide +kernel) hown hK hP 0 rfl rfl 2 (by decide) (hts (.fieldLink RX1 19 "AchromatDesk$DoubletRanking" "spectra" "[J") (by decide +kernel)) (fun _ h9 => h9) rfl dX1_compareSlots_1 ?_
  refine lv_iload_n hx hb dX1_compareSlots_4 rfl (lv_at hl 1 rfl) ?_
  refine ar_lald hx hb hK hP 3 1 rfl rfl a rfl (by omega) (by omega) dX1_compareSlots_5 ?_
  refine lv_aload_n hx hb dX1_compareSlots_6 rfl (lv_at hl 0 rfl) ?_
  refine va_get (D := (dC, dI)) (ci := 1) (v := .ref (q 10)) (C := RX1) (T := TX1) (N := 6) hx hb hts (by decide +kernel) hown hK hP 0 rfl rfl 1 (by decide) (hts (.fieldLink RX1 15 "AchromatDesk$DoubletRanking" "divisors" "[J") (by decide +kernel)) (fun _ h9 => h9) rfl dX1_compareSlots_7 ?_
  refine lv_iload_n hx hb dX1_compareSlots_10 rfl (lv_at hl 2 rfl) ?_
  refine ar_lald hx hb hK hP 2 1 rfl rfl b rfl (by omega) (by omega) dX1_compareSlots_11 ?_
  refine lv_lmul hx hb dX1_compareSlots_12 ?_
  refine lv_aload_n hx hb dX1_compareSlots_13 rfl (lv_at hl 0 rfl) ?_
  refine va_get (D := (dC, dI)) (ci := 1) (v := .ref (q 11)) (C := RX1) (T := TX1) (N := 6) hx hb hts (by decide +kernel) hown hK hP 0 rfl rfl 2 (by decide) (hts (.fieldLink RX1 19 "AchromatDesk$DoubletRanking" "spectra" "[J") (by decide +kernel)) (fun _ h9 => h9) rfl dX1_compareSlots_14 ?_
  refine lv_iload_n hx hb dX1_compareSlots_17 rfl (lv_at hl 2 rfl) ?_
  refine ar_lald hx hb hK hP 3 1 rfl rfl b rfl (by omega) (by omega) dX1_compareSlots_18 ?_
  refine lv_aload_n hx hb dX1_compareSlots_19 rfl (lv_at hl 0 rfl) ?_
  refine va_get (D := (dC, dI)) (ci := 1) (v := .ref (q 10)) (C := RX1) (T := TX1) (N := 6) hx hb hts (by decide +kernel) hown hK hP 0 rfl rfl 1 (by decide) (hts (.fieldLink RX1 15 "AchromatDesk$DoubletRanking" "divisors" "[J") (by decide +kernel)) (fun _ h9 => h9) rfl dX1_compareSlots_20 ?_
  refine lv_iload_n hx hb dX1_compareSlots_23 rfl (lv_at hl 1 rfl) ?_
  refine ar_lald hx hb hK hP 2 1 rfl rfl a rfl (by omega) (by omega) dX1_compareSlots_24 ?_
  refine lv_lmul hx hb dX1_compareSlots_25 ?_
  refine stSi (As := [.long ((ds a) * (dd b)), .long ((ds b) * (dd a))]) (rest := []) (c_J13_compare_74951 l ((ds a) * (dd b)) ((ds b) * (dd a))) ⟨hx, hb, hml, hown, hts⟩ (va_cwS 2 hts gX1_compareSlots_J13_compare_74951 rfl rfl rfl (by decide +kernel) ⟨Nat.le_of_ble_eq_true rfl, Nat.le_of_ble_eq_true rfl⟩) rfl hl.1 rfl (Nat.le_of_ble_eq_true rfl) dX1_compareSlots_26 ⟨Nat.zero_le _, Nat.zero_le _⟩ (fun r hr0 => ?_)
  subst hr0
  refine lv_istore (lv' := [(4, .int (lcm ((ds a) * (dd b)) ((ds b) * (dd a)))), (0, .ref (q 8)), (1, .int (nI a)), (2, .int (nI b)), (3, .int bs)]) hx hb dX1_compareSlots_29 hl (by decide) rfl (fun ls hl => ?_)
  refine lv_aload_n hx hb dX1_compareSlots_31 rfl (lv_at hl 1 rfl) ?_
  refine va_get (D := (dC, dI)) (ci := 1) (v := .ref (q 12)) (C := RX1) (T := TX1) (N := 6) hx hb hts (by decide +kernel) hown hK hP 0 rfl rfl 3 (by decide) (hts (.fieldLink RX1 22 "AchromatDesk$DoubletRanking" "strains" "[J") (by decide +kernel)) (fun _ h9 => h9) rfl dX1_compareSlots_32 ?_
  refine lv_iload_n hx hb dX1_compareSlots_35 rfl (lv_at hl 2 rfl) ?_
  refine ar_lald hx hb hK hP 4 1 rfl rfl a rfl (by omega) (by omega) dX1_compareSlots_36 ?_
  refine lv_aload_n hx hb dX1_compareSlots_37 rfl (lv_at hl 1 rfl) ?_
  refine va_get (D := (dC, dI)) (ci := 1) (v := .ref (q 10)) (C := RX1) (T := TX1) (N := 6) hx hb hts (by decide +kernel) hown hK hP 0 rfl rfl 1 (by decide) (hts (.fieldLink RX1 15 "AchromatDesk$DoubletRanking" "divisors" "[J") (by decide +kernel)) (fun _ h9 => h9) rfl dX1_compareSlots_38 ?_
  refine lv_iload_n hx hb dX1_compareSlots_41 rfl (lv_at hl 3 rfl) ?_
  refine ar_lald hx hb hK hP 2 1 rfl rfl b rfl (by omega) (by omega) dX1_compareSlots_42 ?_
  refine lv_lmul hx hb dX1_compareSlots_43 ?_
  refine lv_aload_n hx hb dX1_compareSlots_44 rfl (lv_at hl 1 rfl) ?_
  refine va_get (D := (dC, dI)) (ci := 1) (v := .ref (q 12)) (C := RX1) (T := TX1) (N := 6) hx hb hts (by decide +kernel) hown hK hP 0 rfl rfl 3 (by decide) (hts (.fieldLink RX1 22 "AchromatDesk$DoubletRanking" "strains" "[J") (by decide +kernel)) (fun _ h9 => h9) rfl dX1_compareSlots_45 ?_
  refine lv_iload_n hx hb dX1_compareSlots_48 rfl (lv_at hl 3 rfl) ?_
  refine ar_lald hx hb hK hP 4 1 rfl rfl b rfl (by omega) (by omega) dX1_compareSlots_49 ?_
  refine lv_aload_n hx hb dX1_compareSlots_50 rfl (lv_at hl 1 rfl) ?_
  refine va_get (D := (dC, dI)) (ci := 1) (v := .ref (q 10)) (C := RX1) (T := TX1) (N := 6) hx hb hts (by decide +kernel) hown hK hP 0 rfl rfl 1 (by decide) (hts (.fieldLink RX1 15 "AchromatDesk$DoubletRanking" "divisors" "[J") (by decide +kernel)) (fun _ h9 => h9) rfl dX1_compareSlots_51 ?_
  refine lv_iload_n hx hb dX1_compareSlots_54 rfl (lv_at hl 2 rfl) ?_
  refine ar_lald hx hb hK hP 2 1 rfl rfl a rfl (by omega) (by omega) dX1_compareSlots_55 ?_
  refine lv_lmul hx hb dX1_compareSlots_56 ?_
  refine stSi (As := [.long ((dt a) * (dd b)), .long ((dt b) * (dd a))]) (rest := []) (c_J13_compare_74951 l ((dt a) * (dd b)) ((dt b) * (dd a))) ⟨hx, hb, hml, hown, hts⟩ (va_cwS 2 hts gX1_compareSlots_J13_compare_74951 rfl rfl rfl (by decide +kernel) ⟨Nat.le_of_ble_eq_true rfl, Nat.le_of_ble_eq_true rfl⟩) rfl hl.1 rfl (Nat.le_of_ble_eq_true rfl) dX1_compareSlots_57 ⟨Nat.zero_le _, Nat.zero_le _⟩ (fun r hr0 => ?_)
  subst hr0
  refine lv_istore (lv' := [(5, .int (lcm ((dt a) * (dd b)) ((dt b) * (dd a)))), (4, .int (lcm ((ds a) * (dd b)) ((ds b) * (dd a)))), (0, .ref (q 8)), (1, .int (nI a)), (2, .int (nI b)), (3, .int bs)]) hx hb dX1_compareSlots_60 hl (by decide) rfl (fun ls hl => ?_)
  refine lv_iload_n hx hb dX1_compareSlots_62 rfl (lv_at hl 5 rfl) ?_
  refine lv_if_eq (tgt := 79) hx hb dX1_compareSlots_63 (by decide) (fun h63 => ?_) (fun h63 => ?_)
  · refine lv_iload hx hb dX1_compareSlots_79 (lv_at hl 1 rfl) ?_
    refine lv_if_eq (tgt := 89) hx hb dX1_compareSlots_81 (by decide) (fun h81 => ?_) (fun h81 => ?_)
    · refine lv_iload hx hb dX1_compareSlots_89 (lv_at hl 0 rfl) ?_
      exact W.iret hx hb hr (fun t ht hW => ⟨_, rfl, by first | rw [cmpS, if_pos h63, if_pos h81] | rw [cmpS, if_pos h63, if_neg h81], ht⟩) (fun _ h => absurd h List.not_mem_nil) dX1_compareSlots_91
    · refine lv_iload hx hb dX1_compareSlots_84 (lv_at hl 1 rfl) ?_
      refine lv_goto (tgt := 91) hx hb dX1_compareSlots_86 (by decide) ?_
      exact W.iret hx hb hr (fun t ht hW => ⟨_, rfl, by first | rw [cmpS, if_pos h63, if_pos h81] | rw [cmpS, if_pos h63, if_neg h81], ht⟩) (fun _ h => absurd h List.not_mem_nil) dX1_compareSlots_91
  · refine lv_iload hx hb dX1_compareSlots_66 (lv_at hl 0 rfl) ?_
    refine lv_if_eq (tgt := 76) hx hb dX1_compareSlots_68 (by decide) (fun h68 => ?_) (fun h68 => ?_)
    · refine lv_iload hx hb dX1_compareSlots_76 (lv_at hl 1 rfl) ?_
      exact W.iret hx hb hr (fun t ht hW => ⟨_, rfl, by first | rw [cmpS, if_neg h63, if_pos h68] | rw [cmpS, if_neg h63, if_neg h68], ht⟩) (fun _ h => absurd h List.not_mem_nil) dX1_compareSlots_78
    · refine lv_iload hx hb dX1_compareSlots_71 (lv_at hl 0 rfl) ?_
      refine lv_goto (tgt := 78) hx hb dX1_compareSlots_73 (by decide) ?_
      exact W.iret hx hb hr (fun t ht hW => ⟨_, rfl, by first | rw [cmpS, if_neg h63, if_pos h68] | rw [cmpS, if_neg h63, if_neg h68], ht⟩) (fun _ h => absurd h List.not_mem_nil) dX1_compareSlots_78

set_option maxHeartbeats 4000000 in
set_option maxRecDepth 100000 in
theorem c_X1_placeAmong (l : Launch) (dC : Nat → ClassId) (dI : Nat → Nat → Nat) (cI cJ : ClassId) (q : Nat → Nat) (dn : Nat) (dc : Nat → Int32) (dd ds dt : Nat → Int64) (od : Nat → Int32) (k : Nat) (hk : k < 190) (bs : Int32) (ho : lOK od k k) (hmn : mono dd ds dt bs od k) : Met l yX1_placeAmong wsX1_placeAmong ({ frames := 2, cells := 0, slots := 0, locals := 48 }) (va_Pc [.ref (q 8), .int (nI k), .int bs] (RO (dC, dI) (tyK cI cJ) ([(q 8, .inr (1, [.ref (q 9), .ref (q 10), .ref (q 11), .ref (q 12), .ref (q 13), .int (nI dn)])), (q 9, .inl (cI, 190, .inl dc)), (q 10, .inl (cJ, 190, .inr (.inl dd))), (q 11, .inl (cJ, 190, .inr (.inl ds))), (q 12, .inl (cJ, 190, .inr (.inl dt))), (q 13, .inl (cI, 190, .inl od))]))) (vp_Si (fun r => r = nI (plc dd ds dt bs od k))) 0 0 (fun _ => False) := by
  refine Met.ofW (cc := cX1_placeAmong) (maxL := 6) (ret := (some .int)) (by decide) rfl ?_
  intro p e s m args below meth c s₁ B hml hv
  obtain ⟨rfl, hP, hK, hN⟩ := hv
  have hx := B.exec
  have hb := B.bytes
  have hr := B.returns
  have hts := atoms_spec (ws := wsX1_placeAmong) B.pre
  have hown : s.vm.findClass RX1 = some m.cls := findClass_of_methodNamed B.named
  have hlocks := B.notSynchronized
  have hP : va_P (dC, dI) vwCl [(q 8, .inr (1, [.ref (q 9), .ref (q 10), .ref (q 11), .ref (q 12), .ref (q 13), .int (nI dn)])), (q 9, .inl (cI, 190, .inl dc)), (q 10, .inl (cJ, 190, .inr (.inl dd))), (q 11, .inl (cJ, 190, .inr (.inl ds))), (q 12, .inl (cJ, 190, .inr (.inl dt))), (q 13, .inl (cI, 190, .inl od))] s.heap := hP
  have hl := lv_entry ([.ref (q 8), .int (nI k), .int bs]) (n := 6) (Nat.le_of_ble_eq_true rfl)
  rw [lg_entry_eq]
  generalize (lg_sl ([.ref (q 8), .int (nI k), .int bs]) ++ List.replicate (6 - (lg_sl ([.ref (q 8), .int (nI k), .int bs])).length) Slot.unset).toArray = ls at hl ⊢
  have hl : lv_has ls 6 [(0, .ref (q 8)), (1, .int (nI k)), (2, .int bs)] := hl
  refine lv_iconst (v := 0) hx hb dX1_placeAmong_0 (by decide) ?_
  refine lv_istore_n (lv' := [(3, .int 0), (0, .ref (q 8)), (1, .int (nI k)), (2, .int bs)]) hx hb dX1_placeAmong_1 rfl hl (by decide) rfl (fun ls hl => ?_)
  refine lv_iload_n hx hb dX1_placeAmong_2 rfl (lv_at hl 2 rfl) ?_
  refine lv_istore (lv' := [(4, .int (nI k)), (3, .int 0), (0, .ref (q 8)), (1, .int (nI k)), (2, .int bs)]) hx hb dX1_placeAmong_3 hl (by decide) rfl (fun ls hl => ?_)
  refine rloopM (σ := Nat × Nat) (nL := 6) (fun z => z.2 - z.1) (fun z5 => [(4, .int (nI z5.2)), (3, .int (nI z5.1)), (0, .ref (q 8)), (1, .int (nI k)), (2, .int bs)]) (fun z => z.1 ≤ z.2 ∧ z.2 ≤ k ∧ (∀ j, j < z.1 → ¬ cmpS dd ds dt bs k (ix (od j)) < 0) ∧ ∀ j, z.2 ≤ j → j < k → cmpS dd ds dt bs k (ix (od j)) < 0) (0, k) (⟨Nat.zero_le _, Nat.le_refl _, fun j h => absurd h (Nat.not_lt_zero j), fun j h1 h2 => absurd h2 (by dsimp only at h1; omega)⟩) (lv_sub hl [0, 1, 2, 3, 4] rfl) (fun z5 hI5 ls hl ih5 => ?_)
  have hb1 := hI5.1
  have hb2 := hI5.2.1
  refine lv_iload_n hx hb dX1_placeAmong_5 rfl (lv_at hl 1 rfl) ?_
  refine lv_iload hx hb dX1_placeAmong_6 (lv_at hl 0 rfl) ?_
  refine rn_ge (tgt := 50) hx hb z5.1 z5.2 rfl rfl (by omega) (by omega) dX1_placeAmong_8 (by decide) (fun h8 => ?_) (fun h8 => ?_)
  · refine lv_iload_n hx hb dX1_placeAmong_50 rfl (lv_at hl 1 rfl) ?_
    exact W.iret hx hb hr (fun t ht hW => ⟨_, rfl, congrArg nI (first_eq (by omega) hI5.2.2.1 (fun h => hI5.2.2.2 _ (by omega) h)).symm, ht⟩) (fun _ h => absurd h List.not_mem_nil) dX1_placeAmong_51
  · refine lv_iload_n hx hb dX1_placeAmong_11 rfl (lv_at hl 1 rfl) ?_
    refine lv_iload hx hb dX1_placeAmong_12 (lv_at hl 0 rfl) ?_
    refine lv_iadd hx hb dX1_placeAmong_14 ?_
    refine rw_topi (nI_add z5.1 z5.2) ?_
    refine lv_iconst (v := 2) hx hb dX1_placeAmong_15 (by decide) ?_
    refine lv_idiv hx hb dX1_placeAmong_16 (by decide) ?_
    refine rw_topi (pk_div (a := z5.1 + z5.2) (d := 2) (by omega) (by omega) (by omega)) ?_
    refine lv_istore (lv' := [(5, .int (nI ((z5.1 + z5.2) / 2))), (4, .int (nI z5.2)), (3, .int (nI z5.1)), (0, .ref (q 8)), (1, .int (nI k)), (2, .int bs)]) hx hb dX1_placeAmong_17 hl (by decide) rfl (fun ls hl => ?_)
    have hm := ho ((z5.1 + z5.2) / 2) (by omega)
    refine lv_aload_n hx hb dX1_placeAmong_19 rfl (lv_at hl 3 rfl) ?_
    refine lv_iload_n hx hb dX1_placeAmong_20 rfl (lv_at hl 4 rfl) ?_
    refine lv_aload_n hx hb dX1_placeAmong_21 rfl (lv_at hl 3 rfl) ?_
    refine va_get (D := (dC, dI)) (ci := 1) (v := .ref (q 13)) (C := RX1) (T := TX1) (N := 6) hx hb hts (by decide +kernel) hown hK hP 0 rfl rfl 4 (by decide) (hts (.fieldLink RX1 25 "AchromatDesk$DoubletRanking" "order" "[I") (by decide +kernel)) (fun _ h9 => h9) rfl dX1_placeAmong_22 ?_
    refine lv_iload hx hb dX1_placeAmong_25 (lv_at hl 0 rfl) ?_
    refine ar_iald hx hb hK hP 5 0 rfl rfl ((z5.1 + z5.2) / 2) rfl (by omega) (by omega) dX1_placeAmong_27 ?_
    refine rw_topi (show (od ((z5.1 + z5.2) / 2) : Int32) = (nI (ix (od ((z5.1 + z5.2) / 2))) : Int32) from hm.1) ?_
    refine lv_iload_n hx hb dX1_placeAmong_28 rfl (lv_at hl 5 rfl) ?_
    refine roVi (As := [.int (nI k), .int (nI (ix (od ((z5.1 + z5.2) / 2)))), .int bs]) (rest := []) (c_X1_compareSlots l dC dI cI cJ q dn dc dd ds dt od k (ix (od ((z5.1 + z5.2) / 2))) (by omega) (by omega) bs) ⟨hx, hb, hml, hown, hts⟩ (cwV 3 hts gX1_placeAmong_X1_compareSlots rfl rfl rfl (by decide +kernel) ⟨Nat.le_of_ble_eq_true rfl, Nat.le_of_ble_eq_true rfl⟩) (hP.sub [0, 1, 2, 3, 4, 5] rfl) hK hN (ci := 1) rfl rfl rfl hl.1 rfl (Nat.le_of_ble_eq_true rfl) dX1_placeAmong_29 ⟨Nat.zero_le _, Nat.zero_le _⟩ (fun r hr0 => ?_)
    subst hr0
    have hm2 := hm.2
    refine lv_if_ge (tgt := 42) hx hb dX1_placeAmong_32 (by decide) (fun h32 => ?_) (fun h32 => ?_)
    · refine lv_iload hx hb dX1_placeAmong_42 (lv_at hl 0 rfl) ?_
      refine lv_iconst (v := 1) hx hb dX1_placeAmong_44 (by decide) ?_
      refine lv_iadd hx hb dX1_placeAmong_45 ?_
      refine rw_topi (nI_add ((z5.1 + z5.2) / 2) 1) ?_
      refine lv_istore_n (lv' := [(3, .int (nI (((z5.1 + z5.2) / 2) + 1))), (5, .int (nI ((z5.1 + z5.2) / 2))), (4, .int (nI z5.2)), (0, .ref (q 8)), (1, .int (nI k)), (2, .int bs)]) hx hb dX1_placeAmong_46 rfl hl (by decide) rfl (fun ls hl => ?_)
      refine lv_goto (tgt := 5) hx hb dX1_placeAmong_47 (by decide) ?_
      exact ih5 (((z5.1 + z5.2) / 2) + 1, z5.2) (⟨by omega, hI5.2.1, fun j hj q => (Nat.lt_succ_iff_lt_or_eq.mp hj).elim (fun w => absurd h32 (Int32.not_le.mpr (hmn j _ w (by omega) q))) (fun e => by subst e; exact absurd q (Int32.not_lt.mpr h32)), hI5.2.2.2⟩) (by first | omega | (dsimp only; omega)) ls (lv_sub hl [2, 0, 3, 4, 5] rfl)
    · refine lv_iload hx hb dX1_placeAmong_35 (lv_at hl 0 rfl) ?_
      refine lv_istore (lv' := [(4, .int (nI ((z5.1 + z5.2) / 2))), (5, .int (nI ((z5.1 + z5.2) / 2))), (3, .int (nI z5.1)), (0, .ref (q 8)), (1, .int (nI k)), (2, .int bs)]) hx hb dX1_placeAmong_37 hl (by decide) rfl (fun ls hl => ?_)
      refine lv_goto (tgt := 47) hx hb dX1_placeAmong_39 (by decide) ?_
      refine lv_goto (tgt := 5) hx hb dX1_placeAmong_47 (by decide) ?_
      exact ih5 (z5.1, (z5.1 + z5.2) / 2) (⟨by dsimp only; omega, by dsimp only; omega, hI5.2.2.1, fun j h1 h2 => (Nat.lt_or_eq_of_le h1).elim (fun w => hmn _ j w h2 (Int32.not_le.mp h32)) (fun e => by subst e; exact Int32.not_le.mp h32)⟩) (by first | omega | (dsimp only; omega)) ls (lv_sub hl [0, 2, 3, 4, 5] rfl)

set_option maxHeartbeats 4000000 in
set_option maxRecDepth 100000 in
theorem c_X1_keep (l : Launch) (dC : Nat → ClassId) (dI : Nat → Nat → Nat) (cI cJ : ClassId) (sz : Nat) (q : Nat → Nat) (G : GL) (n : Nat) (hn : n ≤ 20) (dn : Nat) (dc : Nat → Int32) (dd ds dt : Nat → Int64) (od : Nat → Int32) (hdn : dn < 190) (i j : Nat) (hi : i < n) (hj : j < n) : Met l yX1_keep wsX1_keep ({ frames := 2, cells := 0, slots := 0, locals := 43 }) (va_Pc [.ref (q 8), .int (nI i), .int (nI j), .ref (q 3)] (MU (dC, dI) (tyK cI cJ) ([(q 8, .inr (1, [.ref (q 9), .ref (q 10), .ref (q 11), .ref (q 12), .ref (q 13), .int (nI dn)])), (q 9, .inl (cI, 190, .inl dc)), (q 10, .inl (cJ, 190, .inr (.inl dd))), (q 11, .inl (cJ, 190, .inr (.inl ds))), (q 12, .inl (cJ, 190, .inr (.inl dt))), (q 13, .inl (cI, 190, .inl od)), (q 3, .inr (0, [.ref (q 4), .ref (q 5), .ref (q 6), .ref (q 7), .int (nI n)])), (q 4, .inl (cJ, 20, .inr (.inl (gK G)))), (q 5, .inl (cI, 20, .inl (gF G))), (q 6, .inl (cI, 20, .inl (gD G))), (q 7, .inl (cI, 20, .inl (gC G)))]) sz)) (va_Qv (fun _ => True) (MB (dC, dI) ([(q 8, .inr (1, [.ref (q 9), .ref (q 10), .ref (q 11), .ref (q 12), .ref (q 13), .int (nI dn)])), (q 9, .inl (cI, 190, .inl dc)), (q 10, .inl (cJ, 190, .inr (.inl dd))), (q 11, .inl (cJ, 190, .inr (.inl ds))), (q 12, .inl (cJ, 190, .inr (.inl dt))), (q 13, .inl (cI, 190, .inl od)), (q 3, .inr (0, [.ref (q 4), .ref (q 5), .ref (q 6), .ref (q 7), .int (nI n)])), (q 4, .inl (cJ, 20, .inr (.inl (gK G)))), (q 5, .inl (cI, 20, .inl (gF G))), (q 6, .inl (cI, 20, .inl (gD G))), (q 7, .inl (cI, 20, .inl (gC G)))]) sz (fun (_ : Unit) => [(q 8, .inr (1, [.ref (q 9), .ref (q 10), .ref (q 11), .ref (q 12), .ref (q 13), .int (nI (dn + 1))])), (q 9, .inl (cI, 190, .inl (upd dc dn (nI (100 * i + j))))), (q 10, .inl (cJ, 190, .inr (.inl (vp_updL dd dn (vE G i j))))), (q 11, .inl (cJ, 190, .inr (.inl (vp_updL ds dn (labs (vX G j i)))))), (q 12, .inl (cJ, 190, .inr (.inl (vp_updL dt dn (vStr G i j))))), (q 13, .inl (cI, 190, .inl od)), (q 3, .inr (0, [.ref (q 4), .ref (q 5), .ref (q 6), .ref (q 7), .int (nI n)])), (q 4, .inl (cJ, 20, .inr (.inl (gK G)))), (q 5, .inl (cI, 20, .inl (gF G))), (q 6, .inl (cI, 20, .inl (gD G))), (q 7, .inl (cI, 20, .inl (gC G)))])) (va_A ([(q 8, .inr (1, [.ref (q 9), .ref (q 10), .ref (q 11), .ref (q 12), .ref (q 13), .int (nI dn)])), (q 9, .inl (cI, 190, .inl dc)), (q 10, .inl (cJ, 190, .inr (.inl dd))), (q 11, .inl (cJ, 190, .inr (.inl ds))), (q 12, .inl (cJ, 190, .inr (.inl dt))), (q 13, .inl (cI, 190, .inl od)), (q 3, .inr (0, [.ref (q 4), .ref (q 5), .ref (q 6), .ref (q 7), .int (nI n)])), (q 4, .inl (cJ, 20, .inr (.inl (gK G)))), (q 5, .inl (cI, 20, .inl (gF G))), (q 6, .inl (cI, 20, .inl (gD G))), (q 7, .inl (cI, 20, .inl (gC G)))]) sz)) 0 0 (va_A ([(q 8, .inr (1, [.ref (q 9), .ref (q 10), .ref (q 11), .ref (q 12), .ref (q 13), .int (nI dn)])), (q 9, .inl (cI, 190, .inl dc)), (q 10, .inl (cJ, 190, .inr (.inl dd))), (q 11, .inl (cJ, 190, .inr (.inl ds))), (q 12, .inl (cJ, 190, .inr (.inl dt))), (q 13, .inl (cI, 190, .inl od)), (q 3, .inr (0, [.ref (q 4), .ref (q 5), .ref (q 6), .ref (q 7), .int (nI n)])), (q 4, .inl (cJ, 20, .inr (.inl (gK G)))), (q 5, .inl (cI, 20, .inl (gF G))), (q 6, .inl (cI, 20, .inl (gD G))), (q 7, .inl (cI, 20, .inl (gC G)))]) sz) := by
  refine Met.ofW (cc := cX1_keep) (maxL := 4) (ret := none) (by decide) rfl ?_
  intro p e s m args below meth c s₁ B hml hv
  obtain ⟨rfl, hsz, hP, hK, hN, hD0⟩ := hv
  have hx := B.exec
  have hb := B.bytes
  have hr := B.returns
  have hts := atoms_spec (ws := wsX1_keep) B.pre
  have hown : s.vm.findClass RX1 = some m.cls := findClass_of_methodNamed B.named
  have hlocks := B.notSynchronized
  subst hsz
  have hD := hD0.self (sz := s.heap.size)
  generalize hAe : va_A ([(q 8, .inr (1, [.ref (q 9), .ref (q 10), .ref (q 11), .ref (q 12), .ref (q 13), .int (nI dn)])), (q 9, .inl (cI, 190, .inl dc)), (q 10, .inl (cJ, 190, .inr (.inl dd))), (q 11, .inl (cJ, 190, .inr (.inl ds))), (q 12, .inl (cJ, 190, .inr (.inl dt))), (q 13, .inl (cI, 190, .inl od)), (q 3, .inr (0, [.ref (q 4), .ref (q 5), .ref (q 6), .ref (q 7), .int (nI n)])), (q 4, .inl (cJ, 20, .inr (.inl (gK G)))), (q 5, .inl (cI, 20, .inl (gF G))), (q 6, .inl (cI, 20, .inl (gD G))), (q 7, .inl (cI, 20, .inl (gC G)))]) s.heap.size = A at hD ⊢
  have hA : ∀ q : Nat, s.heap.size ≤ q → A q := fun q h => by rw [← hAe]; exact Or.inr h
  have hS : va_S A s.heap s.heap [] := va_S.rf
  have hP : va_P (dC, dI) vwCl [(q 8, .inr (1, [.ref (q 9), .ref (q 10), .ref (q 11), .ref (q 12), .ref (q 13), .int (nI dn)])), (q 9, .inl (cI, 190, .inl dc)), (q 10, .inl (cJ, 190, .inr (.inl dd))), (q 11, .inl (cJ, 190, .inr (.inl ds))), (q 12, .inl (cJ, 190, .inr (.inl dt))), (q 13, .inl (cI, 190, .inl od)), (q 3, .inr (0, [.ref (q 4), .ref (q 5), .ref (q 6), .ref (q 7), .int (nI n)])), (q 4, .inl (cJ, 20, .inr (.inl (gK G)))), (q 5, .inl (cI, 20, .inl (gF G))), (q 6, .inl (cI, 20, .inl (gD G))), (q 7, .inl (cI, 20, .inl (gC G)))] s.heap := hP
  have hD : va_D A [(q 8, .inr (1, [.ref (q 9), .ref (q 10), .ref (q 11), .ref (q 12), .ref (q 13), .int (nI dn)])), (q 9, .inl (cI, 190, .inl dc)), (q 10, .inl (cJ, 190, .inr (.inl dd))), (q 11, .inl (cJ, 190, .inr (.inl ds))), (q 12, .inl (cJ, 190, .inr (.inl dt))), (q 13, .inl (cI, 190, .inl od)), (q 3, .inr (0, [.ref (q 4), .ref (q 5), .ref (q 6), .ref (q 7), .int (nI n)])), (q 4, .inl (cJ, 20, .inr (.inl (gK G)))), (q 5, .inl (cI, 20, .inl (gF G))), (q 6, .inl (cI, 20, .inl (gD G))), (q 7, .inl (cI, 20, .inl (gC G)))] := hD
  obtain ⟨H, hH⟩ : ∃ H : Heap, H = s.heap := ⟨_, rfl⟩
  obtain ⟨locs, hlc⟩ : ∃ locs : List Loc, locs = [] := ⟨_, rfl⟩
  have hl := lv_entry ([.ref (q 8), .int (nI i), .int (nI j), .ref (q 3)]) (n := 4) (Nat.le_of_ble_eq_true rfl)
  rw [lg_entry_eq]
  generalize (lg_sl ([.ref (q 8), .int (nI i), .int (nI j), .ref (q 3)]) ++ List.replicate (4 - (lg_sl ([.ref (q 8), .int (nI i), .int (nI j), .ref (q 3)])).length) Slot.unset).toArray = ls at hl ⊢
  have hl : lv_has ls 4 [(0, .ref (q 8)), (1, .int (nI i)), (2, .int (nI j)), (3, .ref (q 3))] := hl
  refine mu_in hH hlc (fun hS hP hD => ?_) hS hP hD
  clear hH hlc
  refine lv_aload_n hx hb dX1_keep_0 rfl (lv_at hl 0 rfl) ?_
  refine va_get (D := (dC, dI)) (ci := 1) (v := .ref (q 9)) (C := RX1) (T := TX1) (N := 6) hx hb hts (by decide +kernel) hown hK hP 0 rfl rfl 0 (by decide) (hts (.fieldLink RX1 9 "AchromatDesk$DoubletRanking" "codes" "[I") (by decide +kernel)) (fun _ h9 => h9) rfl dX1_keep_1 ?_
  refine lv_aload_n hx hb dX1_keep_4 rfl (lv_at hl 0 rfl) ?_
  refine va_get (D := (dC, dI)) (ci := 1) (v := .int (nI dn)) (C := RX1) (T := TX1) (N := 6) hx hb hts (by decide +kernel) hown hK hP 0 rfl rfl 5 (by decide) (hts (.fieldLink RX1 28 "AchromatDesk$DoubletRanking" "count" "I") (by decide +kernel)) (fun _ h9 => h9) rfl dX1_keep_5 ?_
  refine lv_bipush (v := 100) hx hb dX1_keep_8 (by decide) ?_
  refine lv_iload_n hx hb dX1_keep_10 rfl (lv_at hl 1 rfl) ?_
  refine lv_imul hx hb dX1_keep_11 ?_
  refine rw_topi (pk_mul 100 i) ?_
  refine lv_iload_n hx hb dX1_keep_12 rfl (lv_at hl 2 rfl) ?_
  refine lv_iadd hx hb dX1_keep_13 ?_
  refine rw_topi (nI_add (100 * i) j) ?_
  refine ar_iast hx hb hK hP hD hS 1 0 rfl rfl dn rfl (by omega) (by omega) dX1_keep_14 (fun H locs hP hD hS => ?_)
  have hP : va_P (dC, dI) vwCl [(q 8, .inr (1, [.ref (q 9), .ref (q 10), .ref (q 11), .ref (q 12), .ref (q 13), .int (nI dn)])), (q 9, .inl (cI, 190, .inl (upd dc dn (nI ((100 * i) + j))))), (q 10, .inl (cJ, 190, .inr (.inl dd))), (q 11, .inl (cJ, 190, .inr (.inl ds))), (q 12, .inl (cJ, 190, .inr (.inl dt))), (q 13, .inl (cI, 190, .inl od)), (q 3, .inr (0, [.ref (q 4), .ref (q 5), .ref (q 6), .ref (q 7), .int (nI n)])), (q 4, .inl (cJ, 20, .inr (.inl (gK G)))), (q 5, .inl (cI, 20, .inl (gF G))), (q 6, .inl (cI, 20, .inl (gD G))), (q 7, .inl (cI, 20, .inl (gC G)))] H := hP
  have hD : va_D A [(q 8, .inr (1, [.ref (q 9), .ref (q 10), .ref (q 11), .ref (q 12), .ref (q 13), .int (nI dn)])), (q 9, .inl (cI, 190, .inl (upd dc dn (nI ((100 * i) + j))))), (q 10, .inl (cJ, 190, .inr (.inl dd))), (q 11, .inl (cJ, 190, .inr (.inl ds))), (q 12, .inl (cJ, 190, .inr (.inl dt))), (q 13, .inl (cI, 190, .inl od)), (q 3, .inr (0, [.ref (q 4), .ref (q 5), .ref (q 6), .ref (q 7), .int (nI n)])), (q 4, .inl (cJ, 20, .inr (.inl (gK G)))), (q 5, .inl (cI, 20, .inl (gF G))), (q 6, .inl (cI, 20, .inl (gD G))), (q 7, .inl (cI, 20, .inl (gC G)))] := hD
  refine lv_aload_n hx hb dX1_keep_15 rfl (lv_at hl 0 rfl) ?_
  refine va_get (D := (dC, dI)) (ci := 1) (v := .ref (q 10)) (C := RX1) (T := TX1) (N := 6) hx hb hts (by decide +kernel) hown hK hP 0 rfl rfl 1 (by decide) (hts (.fieldLink RX1 15 "AchromatDesk$DoubletRanking" "divisors" "[J") (by decide +kernel)) (fun _ h9 => h9) rfl dX1_keep_16 ?_
  refine lv_aload_n hx hb dX1_keep_19 rfl (lv_at hl 0 rfl) ?_
  refine va_get (D := (dC, dI)) (ci := 1) (v := .int (nI dn)) (C := RX1) (T := TX1) (N := 6) hx hb hts (by decide +kernel) hown hK hP 0 rfl rfl 5 (by decide) (hts (.fieldLink RX1 28 "AchromatDesk$DoubletRanking" "count" "I") (by decide +kernel)) (fun _ h9 => h9) rfl dX1_keep_20 ?_
  refine lv_aload_n hx hb dX1_keep_23 rfl (lv_at hl 3 rfl) ?_
  refine lv_iload_n hx hb dX1_keep_24 rfl (lv_at hl 1 rfl) ?_
  refine lv_iload_n hx hb dX1_keep_25 rfl (lv_at hl 2 rfl) ?_
  refine roVl (As := [.int (nI i), .int (nI j)]) (rest := [.int (nI dn), .ref (q 10)]) (c_X0_valueE l dC dI cI cJ q G n hn i j (by omega) (by omega)) ⟨hx, hb, hml, hown, hts⟩ (cwV 2 hts gX1_keep_X0_valueE rfl rfl rfl (by decide +kernel) ⟨Nat.le_of_ble_eq_true rfl, Nat.le_of_ble_eq_true rfl⟩) (hP.sub [6, 7, 8, 9, 10] rfl) hK hN (ci := 0) rfl rfl rfl hl.1 rfl (Nat.le_of_ble_eq_true rfl) dX1_keep_26 ⟨Nat.zero_le _, Nat.zero_le _⟩ (fun r hr0 => ?_)
  subst hr0
  refine ar_last hx hb hK hP hD hS 2 1 rfl rfl dn rfl (by omega) (by omega) dX1_keep_29 (fun H locs hP hD hS => ?_)
  have hP : va_P (dC, dI) vwCl [(q 8, .inr (1, [.ref (q 9), .ref (q 10), .ref (q 11), .ref (q 12), .ref (q 13), .int (nI dn)])), (q 9, .inl (cI, 190, .inl (upd dc dn (nI ((100 * i) + j))))), (q 10, .inl (cJ, 190, .inr (.inl (vp_updL dd dn (vE G i j))))), (q 11, .inl (cJ, 190, .inr (.inl ds))), (q 12, .inl (cJ, 190, .inr (.inl dt))), (q 13, .inl (cI, 190, .inl od)), (q 3, .inr (0, [.ref (q 4), .ref (q 5), .ref (q 6), .ref (q 7), .int (nI n)])), (q 4, .inl (cJ, 20, .inr (.inl (gK G)))), (q 5, .inl (cI, 20, .inl (gF G))), (q 6, .inl (cI, 20, .inl (gD G))), (q 7, .inl (cI, 20, .inl (gC G)))] H := hP
  have hD : va_D A [(q 8, .inr (1, [.ref (q 9), .ref (q 10), .ref (q 11), .ref (q 12), .ref (q 13), .int (nI dn)])), (q 9, .inl (cI, 190, .inl (upd dc dn (nI ((100 * i) + j))))), (q 10, .inl (cJ, 190, .inr (.inl (vp_updL dd dn (vE G i j))))), (q 11, .inl (cJ, 190, .inr (.inl ds))), (q 12, .inl (cJ, 190, .inr (.inl dt))), (q 13, .inl (cI, 190, .inl od)), (q 3, .inr (0, [.ref (q 4), .ref (q 5), .ref (q 6), .ref (q 7), .int (nI n)])), (q 4, .inl (cJ, 20, .inr (.inl (gK G)))), (q 5, .inl (cI, 20, .inl (gF G))), (q 6, .inl (cI, 20, .inl (gD G))), (q 7, .inl (cI, 20, .inl (gC G)))] := hD
  refine lv_aload_n hx hb dX1_keep_30 rfl (lv_at hl 0 rfl) ?_
  refine va_get (D := (dC, dI)) (ci := 1) (v := .ref (q 11)) (C := RX1) (T := TX1) (N := 6) hx hb hts (by decide +kernel) hown hK hP 0 rfl rfl 2 (by decide) (hts (.fieldLink RX1 19 "AchromatDesk$DoubletRanking" "spectra" "[J") (by decide +kernel)) (fun _ h9 => h9) rfl dX1_keep_31 ?_
  refine lv_aload_n hx hb dX1_keep_34 rfl (lv_at hl 0 rfl) ?_
  refine va_get (D := (dC, dI)) (ci := 1) (v := .int (nI dn)) (C := RX1) (T := TX1) (N := 6) hx hb hts (by decide +kernel) hown hK hP 0 rfl rfl 5 (by decide) (hts (.fieldLink RX1 28 "AchromatDesk$DoubletRanking" "count" "I") (by decide +kernel)) (fun _ h9 => h9) rfl dX1_keep_35 ?_
  refine lv_aload_n hx hb dX1_keep_38 rfl (lv_at hl 3 rfl) ?_
  refine lv_iload_n hx hb dX1_keep_39 rfl (lv_at hl 2 rfl) ?_
  refine lv_iload_n hx hb dX1_keep_40 rfl (lv_at hl 1 rfl) ?_
  refine roVl (As := [.int (nI j), .int (nI i)]) (rest := [.int (nI dn), .ref (q 11)]) (c_X0_valueX l dC dI cI cJ q G n hn j i (by omega) (by omega)) ⟨hx, hb, hml, hown, hts⟩ (cwV 2 hts gX1_keep_X0_valueX rfl rfl rfl (by decide +kernel) ⟨Nat.le_of_ble_eq_true rfl, Nat.le_of_ble_eq_true rfl⟩) (hP.sub [6, 7, 8, 9, 10] rfl) hK hN (ci := 0) rfl rfl rfl hl.1 rfl (Nat.le_of_ble_eq_true rfl) dX1_keep_41 ⟨Nat.zero_le _, Nat.zero_le _⟩ (fun r hr0 => ?_)
  subst hr0
  refine va_mabs_long hx hb (by rw [hml]; exact hl.1.symm) hown (hts (.methodLink RX1 50 Lib.MathLoose.abs_long.x) (by decide +kernel)) (hts (.static Lib.MathLoose.abs_long.x) (by decide +kernel)) (hts (.initialized "java/lang/Math") (by decide +kernel)) (hts (.code Lib.MathLoose.abs_long.x Lib.MathLoose.abs_long.code 2 (some .long)) (by decide +kernel)) (Nat.le_of_ble_eq_true rfl) (Nat.le_of_ble_eq_true rfl) (Nat.zero_le _) (Nat.zero_le _) dX1_keep_44 ?_
  refine ar_last hx hb hK hP hD hS 3 1 rfl rfl dn rfl (by omega) (by omega) dX1_keep_47 (fun H locs hP hD hS => ?_)
  have hP : va_P (dC, dI) vwCl [(q 8, .inr (1, [.ref (q 9), .ref (q 10), .ref (q 11), .ref (q 12), .ref (q 13), .int (nI dn)])), (q 9, .inl (cI, 190, .inl (upd dc dn (nI ((100 * i) + j))))), (q 10, .inl (cJ, 190, .inr (.inl (vp_updL dd dn (vE G i j))))), (q 11, .inl (cJ, 190, .inr (.inl (vp_updL ds dn (labs (vX G j i)))))), (q 12, .inl (cJ, 190, .inr (.inl dt))), (q 13, .inl (cI, 190, .inl od)), (q 3, .inr (0, [.ref (q 4), .ref (q 5), .ref (q 6), .ref (q 7), .int (nI n)])), (q 4, .inl (cJ, 20, .inr (.inl (gK G)))), (q 5, .inl (cI, 20, .inl (gF G))), (q 6, .inl (cI, 20, .inl (gD G))), (q 7, .inl (cI, 20, .inl (gC G)))] H := hP
  have hD : va_D A [(q 8, .inr (1, [.ref (q 9), .ref (q 10), .ref (q 11), .ref (q 12), .ref (q 13), .int (nI dn)])), (q 9, .inl (cI, 190, .inl (upd dc dn (nI ((100 * i) + j))))), (q 10, .inl (cJ, 190, .inr (.inl (vp_updL dd dn (vE G i j))))), (q 11, .inl (cJ, 190, .inr (.inl (vp_updL ds dn (labs (vX G j i)))))), (q 12, .inl (cJ, 190, .inr (.inl dt))), (q 13, .inl (cI, 190, .inl od)), (q 3, .inr (0, [.ref (q 4), .ref (q 5), .ref (q 6), .ref (q 7), .int (nI n)])), (q 4, .inl (cJ, 20, .inr (.inl (gK G)))), (q 5, .inl (cI, 20, .inl (gF G))), (q 6, .inl (cI, 20, .inl (gD G))), (q 7, .inl (cI, 20, .inl (gC G)))] := hD
  refine lv_aload_n hx hb dX1_keep_48 rfl (lv_at hl 0 rfl) ?_
  refine va_get (D := (dC, dI)) (ci := 1) (v := .ref (q 12)) (C := RX1) (T := TX1) (N := 6) hx hb hts (by decide +kernel) hown hK hP 0 rfl rfl 3 (by decide) (hts (.fieldLink RX1 22 "AchromatDesk$DoubletRanking" "strains" "[J") (by decide +kernel)) (fun _ h9 => h9) rfl dX1_keep_49 ?_
  refine lv_aload_n hx hb dX1_keep_52 rfl (lv_at hl 0 rfl) ?_
  refine va_get (D := (dC, dI)) (ci := 1) (v := .int (nI dn)) (C := RX1) (T := TX1) (N := 6) hx hb hts (by decide +kernel) hown hK hP 0 rfl rfl 5 (by decide) (hts (.fieldLink RX1 28 "AchromatDesk$DoubletRanking" "count" "I") (by decide +kernel)) (fun _ h9 => h9) rfl dX1_keep_53 ?_
  refine lv_aload_n hx hb dX1_keep_56 rfl (lv_at hl 3 rfl) ?_
  refine lv_iload_n hx hb dX1_keep_57 rfl (lv_at hl 1 rfl) ?_
  refine roVl (As := [.int (nI i)]) (rest := [.int (nI dn), .ref (q 12)]) (c_X0_valueA l dC dI cI cJ q G n hn i (by omega)) ⟨hx, hb, hml, hown, hts⟩ (cwV 1 hts gX1_keep_X0_valueA rfl rfl rfl (by decide +kernel) ⟨Nat.le_of_ble_eq_true rfl, Nat.le_of_ble_eq_true rfl⟩) (hP.sub [6, 7, 8, 9, 10] rfl) hK hN (ci := 0) rfl rfl rfl hl.1 rfl (Nat.le_of_ble_eq_true rfl) dX1_keep_58 ⟨Nat.zero_le _, Nat.zero_le _⟩ (fun r hr0 => ?_)
  subst hr0
  refine lv_aload_n hx hb dX1_keep_61 rfl (lv_at hl 3 rfl) ?_
  refine lv_iload_n hx hb dX1_keep_62 rfl (lv_at hl 2 rfl) ?_
  refine roVl (As := [.int (nI j)]) (rest := [.long (vA G i), .int (nI dn), .ref (q 12)]) (c_X0_valueB l dC dI cI cJ q G n hn j (by omega)) ⟨hx, hb, hml, hown, hts⟩ (cwV 1 hts gX1_keep_X0_valueB rfl rfl rfl (by decide +kernel) ⟨Nat.le_of_ble_eq_true rfl, Nat.le_of_ble_eq_true rfl⟩) (hP.sub [6, 7, 8, 9, 10] rfl) hK hN (ci := 0) rfl rfl rfl hl.1 rfl (Nat.le_of_ble_eq_true rfl) dX1_keep_63 ⟨Nat.zero_le _, Nat.zero_le _⟩ (fun r hr0 => ?_)
  subst hr0
  refine lv_lmul hx hb dX1_keep_66 ?_
  refine lv_aload_n hx hb dX1_keep_67 rfl (lv_at hl 3 rfl) ?_
  refine lv_iload_n hx hb dX1_keep_68 rfl (lv_at hl 2 rfl) ?_
  refine roVl (As := [.int (nI j)]) (rest := [.long ((vA G i) * (vB G j)), .int (nI dn), .ref (q 12)]) (c_X0_valueA l dC dI cI cJ q G n hn j (by omega)) ⟨hx, hb, hml, hown, hts⟩ (cwV 1 hts gX1_keep_X0_valueA rfl rfl rfl (by decide +kernel) ⟨Nat.le_of_ble_eq_true rfl, Nat.le_of_ble_eq_true rfl⟩) (hP.sub [6, 7, 8, 9, 10] rfl) hK hN (ci := 0) rfl rfl rfl hl.1 rfl (Nat.le_of_ble_eq_true rfl) dX1_keep_69 ⟨Nat.zero_le _, Nat.zero_le _⟩ (fun r hr0 => ?_)
  subst hr0
  refine lv_aload_n hx hb dX1_keep_72 rfl (lv_at hl 3 rfl) ?_
  refine lv_iload_n hx hb dX1_keep_73 rfl (lv_at hl 1 rfl) ?_
  refine roVl (As := [.int (nI i)]) (rest := [.long (vA G j), .long ((vA G i) * (vB G j)), .int (nI dn), .ref (q 12)]) (c_X0_valueB l dC dI cI cJ q G n hn i (by omega)) ⟨hx, hb, hml, hown, hts⟩ (cwV 1 hts gX1_keep_X0_valueB rfl rfl rfl (by decide +kernel) ⟨Nat.le_of_ble_eq_true rfl, Nat.le_of_ble_eq_true rfl⟩) (hP.sub [6, 7, 8, 9, 10] rfl) hK hN (ci := 0) rfl rfl rfl hl.1 rfl (Nat.le_of_ble_eq_true rfl) dX1_keep_74 ⟨Nat.zero_le _, Nat.zero_le _⟩ (fun r hr0 => ?_)
  subst hr0
  refine lv_lmul hx hb dX1_keep_77 ?_
  refine lv_ladd hx hb dX1_keep_78 ?_
  refine ar_last hx hb hK hP hD hS 4 1 rfl rfl dn rfl (by omega) (by omega) dX1_keep_79 (fun H locs hP hD hS => ?_)
  have hP : va_P (dC, dI) vwCl [(q 8, .inr (1, [.ref (q 9), .ref (q 10), .ref (q 11), .ref (q 12), .ref (q 13), .int (nI dn)])), (q 9, .inl (cI, 190, .inl (upd dc dn (nI ((100 * i) + j))))), (q 10, .inl (cJ, 190, .inr (.inl (vp_updL dd dn (vE G i j))))), (q 11, .inl (cJ, 190, .inr (.inl (vp_updL ds dn (labs (vX G j i)))))), (q 12, .inl (cJ, 190, .inr (.inl (vp_updL dt dn (vStr G i j))))), (q 13, .inl (cI, 190, .inl od)), (q 3, .inr (0, [.ref (q 4), .ref (q 5), .ref (q 6), .ref (q 7), .int (nI n)])), (q 4, .inl (cJ, 20, .inr (.inl (gK G)))), (q 5, .inl (cI, 20, .inl (gF G))), (q 6, .inl (cI, 20, .inl (gD G))), (q 7, .inl (cI, 20, .inl (gC G)))] H := hP
  have hD : va_D A [(q 8, .inr (1, [.ref (q 9), .ref (q 10), .ref (q 11), .ref (q 12), .ref (q 13), .int (nI dn)])), (q 9, .inl (cI, 190, .inl (upd dc dn (nI ((100 * i) + j))))), (q 10, .inl (cJ, 190, .inr (.inl (vp_updL dd dn (vE G i j))))), (q 11, .inl (cJ, 190, .inr (.inl (vp_updL ds dn (labs (vX G j i)))))), (q 12, .inl (cJ, 190, .inr (.inl (vp_updL dt dn (vStr G i j))))), (q 13, .inl (cI, 190, .inl od)), (q 3, .inr (0, [.ref (q 4), .ref (q 5), .ref (q 6), .ref (q 7), .int (nI n)])), (q 4, .inl (cJ, 20, .inr (.inl (gK G)))), (q 5, .inl (cI, 20, .inl (gF G))), (q 6, .inl (cI, 20, .inl (gD G))), (q 7, .inl (cI, 20, .inl (gC G)))] := hD
  refine lv_aload_n hx hb dX1_keep_80 rfl (lv_at hl 0 rfl) ?_
  refine lv_dup hx hb dX1_keep_81 rfl ?_
  refine va_get (D := (dC, dI)) (ci := 1) (v := .int (nI dn)) (C := RX1) (T := TX1) (N := 6) hx hb hts (by decide +kernel) hown hK hP 0 rfl rfl 5 (by decide) (hts (.fieldLink RX1 28 "AchromatDesk$DoubletRanking" "count" "I") (by decide +kernel)) (fun _ h9 => h9) rfl dX1_keep_82 ?_
  refine lv_iconst (v := 1) hx hb dX1_keep_85 (by decide) ?_
  refine lv_iadd hx hb dX1_keep_86 ?_
  refine rw_topi (nI_add dn 1) ?_
  refine va_put (D := (dC, dI)) (ci := 1) (v := .int (nI (dn + 1))) (ty := .int) (C := RX1) (T := TX1) (N := 6) hx hb hts (by decide +kernel) tyX1 tyX1_ok nmX1 hown hK hP hD hS 0 rfl rfl 5 (by decide) (hts (.fieldLink RX1 28 "AchromatDesk$DoubletRanking" "count" "I") (by decide +kernel)) (fun _ h9 => h9) rfl (by decide +kernel) rfl rfl (Nat.le_of_ble_eq_true rfl) dX1_keep_87 (fun H locs hP hD hS => ?_)
  have hP : va_P (dC, dI) vwCl [(q 8, .inr (1, [.ref (q 9), .ref (q 10), .ref (q 11), .ref (q 12), .ref (q 13), .int (nI (dn + 1))])), (q 9, .inl (cI, 190, .inl (upd dc dn (nI ((100 * i) + j))))), (q 10, .inl (cJ, 190, .inr (.inl (vp_updL dd dn (vE G i j))))), (q 11, .inl (cJ, 190, .inr (.inl (vp_updL ds dn (labs (vX G j i)))))), (q 12, .inl (cJ, 190, .inr (.inl (vp_updL dt dn (vStr G i j))))), (q 13, .inl (cI, 190, .inl od)), (q 3, .inr (0, [.ref (q 4), .ref (q 5), .ref (q 6), .ref (q 7), .int (nI n)])), (q 4, .inl (cJ, 20, .inr (.inl (gK G)))), (q 5, .inl (cI, 20, .inl (gF G))), (q 6, .inl (cI, 20, .inl (gD G))), (q 7, .inl (cI, 20, .inl (gC G)))] H := hP
  have hD : va_D A [(q 8, .inr (1, [.ref (q 9), .ref (q 10), .ref (q 11), .ref (q 12), .ref (q 13), .int (nI (dn + 1))])), (q 9, .inl (cI, 190, .inl (upd dc dn (nI ((100 * i) + j))))), (q 10, .inl (cJ, 190, .inr (.inl (vp_updL dd dn (vE G i j))))), (q 11, .inl (cJ, 190, .inr (.inl (vp_updL ds dn (labs (vX G j i)))))), (q 12, .inl (cJ, 190, .inr (.inl (vp_updL dt dn (vStr G i j))))), (q 13, .inl (cI, 190, .inl od)), (q 3, .inr (0, [.ref (q 4), .ref (q 5), .ref (q 6), .ref (q 7), .int (nI n)])), (q 4, .inl (cJ, 20, .inr (.inl (gK G)))), (q 5, .inl (cI, 20, .inl (gF G))), (q 6, .inl (cI, 20, .inl (gD G))), (q 7, .inl (cI, 20, .inl (gC G)))] := hD
  exact W.vret hx hb hr (fun t ht hW => ⟨⟨(), rfl, trivial, by rw [ht]; exact hP, by rw [hAe]; exact hD⟩, hS.F ht⟩) hS.2.2 dX1_keep_90

set_option maxHeartbeats 4000000 in
set_option maxRecDepth 100000 in
theorem c_X1_collect (l : Launch) (dC : Nat → ClassId) (dI : Nat → Nat → Nat) (cI cJ : ClassId) (sz : Nat) (q : Nat → Nat) (G : GL) (n : Nat) (hn : n ≤ 20) (dn : Nat) (dc : Nat → Int32) (dd ds dt : Nat → Int64) (od : Nat → Int32) (hcl : ∀ i j, i < n → j < n → 0 < vE G i j → (fr 0 (fun j z => col1 G i j z) (fr 0 (fun i z => col2 G n i z) ((0 : Nat), dc, dd, ds, dt) i) j).1 < 190) : Met l yX1_collect wsX1_collect ({ frames := 3, cells := 0, slots := 0, locals := 66 }) (va_Pc [.ref (q 8), .ref (q 3)] (MU (dC, dI) (tyK cI cJ) ([(q 8, .inr (1, [.ref (q 9), .ref (q 10), .ref (q 11), .ref (q 12), .ref (q 13), .int (nI dn)])), (q 9, .inl (cI, 190, .inl dc)), (q 10, .inl (cJ, 190, .inr (.inl dd))), (q 11, .inl (cJ, 190, .inr (.inl ds))), (q 12, .inl (cJ, 190, .inr (.inl dt))), (q 13, .inl (cI, 190, .inl od)), (q 3, .inr (0, [.ref (q 4), .ref (q 5), .ref (q 6), .ref (q 7), .int (nI n)])), (q 4, .inl (cJ, 20, .inr (.inl (gK G)))), (q 5, .inl (cI, 20, .inl (gF G))), (q 6, .inl (cI, 20, .inl (gD G))), (q 7, .inl (cI, 20, .inl (gC G)))]) sz)) (va_Qv (fun (u : DS) => u = col G n ((0 : Nat), dc, dd, ds, dt)) (MB (dC, dI) ([(q 8, .inr (1, [.ref (q 9), .ref (q 10), .ref (q 11), .ref (q 12), .ref (q 13), .int (nI dn)])), (q 9, .inl (cI, 190, .inl dc)), (q 10, .inl (cJ, 190, .inr (.inl dd))), (q 11, .inl (cJ, 190, .inr (.inl ds))), (q 12, .inl (cJ, 190, .inr (.inl dt))), (q 13, .inl (cI, 190, .inl od)), (q 3, .inr (0, [.ref (q 4), .ref (q 5), .ref (q 6), .ref (q 7), .int (nI n)])), (q 4, .inl (cJ, 20, .inr (.inl (gK G)))), (q 5, .inl (cI, 20, .inl (gF G))), (q 6, .inl (cI, 20, .inl (gD G))), (q 7, .inl (cI, 20, .inl (gC G)))]) sz (fun (u : DS) => [(q 8, .inr (1, [.ref (q 9), .ref (q 10), .ref (q 11), .ref (q 12), .ref (q 13), .int (nI u.1)])), (q 9, .inl (cI, 190, .inl u.2.1)), (q 10, .inl (cJ, 190, .inr (.inl u.2.2.1))), (q 11, .inl (cJ, 190, .inr (.inl u.2.2.2.1))), (q 12, .inl (cJ, 190, .inr (.inl u.2.2.2.2))), (q 13, .inl (cI, 190, .inl od)), (q 3, .inr (0, [.ref (q 4), .ref (q 5), .ref (q 6), .ref (q 7), .int (nI n)])), (q 4, .inl (cJ, 20, .inr (.inl (gK G)))), (q 5, .inl (cI, 20, .inl (gF G))), (q 6, .inl (cI, 20, .inl (gD G))), (q 7, .inl (cI, 20, .inl (gC G)))])) (va_A ([(q 8, .inr (1, [.ref (q 9), .ref (q 10), .ref (q 11), .ref (q 12), .ref (q 13), .int (nI dn)])), (q 9, .inl (cI, 190, .inl dc)), (q 10, .inl (cJ, 190, .inr (.inl dd))), (q 11, .inl (cJ, 190, .inr (.inl ds))), (q 12, .inl (cJ, 190, .inr (.inl dt))), (q 13, .inl (cI, 190, .inl od)), (q 3, .inr (0, [.ref (q 4), .ref (q 5), .ref (q 6), .ref (q 7), .int (nI n)])), (q 4, .inl (cJ, 20, .inr (.inl (gK G)))), (q 5, .inl (cI, 20, .inl (gF G))), (q 6, .inl (cI, 20, .inl (gD G))), (q 7, .inl (cI, 20, .inl (gC G)))]) sz)) 0 0 (va_A ([(q 8, .inr (1, [.ref (q 9), .ref (q 10), .ref (q 11), .ref (q 12), .ref (q 13), .int (nI dn)])), (q 9, .inl (cI, 190, .inl dc)), (q 10, .inl (cJ, 190, .inr (.inl dd))), (q 11, .inl (cJ, 190, .inr (.inl ds))), (q 12, .inl (cJ, 190, .inr (.inl dt))), (q 13, .inl (cI, 190, .inl od)), (q 3, .inr (0, [.ref (q 4), .ref (q 5), .ref (q 6), .ref (q 7), .int (nI n)])), (q 4, .inl (cJ, 20, .inr (.inl (gK G)))), (q 5, .inl (cI, 20, .inl (gF G))), (q 6, .inl (cI, 20, .inl (gD G))), (q 7, .inl (cI, 20, .inl (gC G)))]) sz) := by
  refine Met.ofW (cc := cX1_collect) (maxL := 4) (ret := none) (by decide) rfl ?_
  intro p e s m args below meth c s₁ B hml hv
  obtain ⟨rfl, hsz, hP, hK, hN, hD0⟩ := hv
  have hx := B.exec
  have hb := B.bytes
  have hr := B.returns
  have hts := atoms_spec (ws := wsX1_collect) B.pre
  have hown : s.vm.findClass RX1 = some m.cls := findClass_of_methodNamed B.named
  have hlocks := B.notSynchronized
  subst hsz
  have hD := hD0.self (sz := s.heap.size)
  generalize hAe : va_A ([(q 8, .inr (1, [.ref (q 9), .ref (q 10), .ref (q 11), .ref (q 12), .ref (q 13), .int (nI dn)])), (q 9, .inl (cI, 190, .inl dc)), (q 10, .inl (cJ, 190, .inr (.inl dd))), (q 11, .inl (cJ, 190, .inr (.inl ds))), (q 12, .inl (cJ, 190, .inr (.inl dt))), (q 13, .inl (cI, 190, .inl od)), (q 3, .inr (0, [.ref (q 4), .ref (q 5), .ref (q 6), .ref (q 7), .int (nI n)])), (q 4, .inl (cJ, 20, .inr (.inl (gK G)))), (q 5, .inl (cI, 20, .inl (gF G))), (q 6, .inl (cI, 20, .inl (gD G))), (q 7, .inl (cI, 20, .inl (gC G)))]) s.heap.size = A at hD ⊢
  have hA : ∀ q : Nat, s.heap.size ≤ q → A q := fun q h => by rw [← hAe]; exact Or.inr h
  have hS : va_S A s.heap s.heap [] := va_S.rf
  have hP : va_P (dC, dI) vwCl [(q 8, .inr (1, [.ref (q 9), .ref (q 10), .ref (q 11), .ref (q 12), .ref (q 13), .int (nI dn)])), (q 9, .inl (cI, 190, .inl dc)), (q 10, .inl (cJ, 190, .inr (.inl dd))), (q 11, .inl (cJ, 190, .inr (.inl ds))), (q 12, .inl (cJ, 190, .inr (.inl dt))), (q 13, .inl (cI, 190, .inl od)), (q 3, .inr (0, [.ref (q 4), .ref (q 5), .ref (q 6), .ref (q 7), .int (nI n)])), (q 4, .inl (cJ, 20, .inr (.inl (gK G)))), (q 5, .inl (cI, 20, .inl (gF G))), (q 6, .inl (cI, 20, .inl (gD G))), (q 7, .inl (cI, 20, .inl (gC G)))] s.heap := hP
  have hD : va_D A [(q 8, .inr (1, [.ref (q 9), .ref (q 10), .ref (q 11), .ref (q 12), .ref (q 13), .int (nI dn)])), (q 9, .inl (cI, 190, .inl dc)), (q 10, .inl (cJ, 190, .inr (.inl dd))), (q 11, .inl (cJ, 190, .inr (.inl ds))), (q 12, .inl (cJ, 190, .inr (.inl dt))), (q 13, .inl (cI, 190, .inl od)), (q 3, .inr (0, [.ref (q 4), .ref (q 5), .ref (q 6), .ref (q 7), .int (nI n)])), (q 4, .inl (cJ, 20, .inr (.inl (gK G)))), (q 5, .inl (cI, 20, .inl (gF G))), (q 6, .inl (cI, 20, .inl (gD G))), (q 7, .inl (cI, 20, .inl (gC G)))] := hD
  obtain ⟨H, hH⟩ : ∃ H : Heap, H = s.heap := ⟨_, rfl⟩
  obtain ⟨locs, hlc⟩ : ∃ locs : List Loc, locs = [] := ⟨_, rfl⟩
  have hl := lv_entry ([.ref (q 8), .ref (q 3)]) (n := 4) (Nat.le_of_ble_eq_true rfl)
  rw [lg_entry_eq]
  generalize (lg_sl ([.ref (q 8), .ref (q 3)]) ++ List.replicate (4 - (lg_sl ([.ref (q 8), .ref (q 3)])).length) Slot.unset).toArray = ls at hl ⊢
  have hl : lv_has ls 4 [(0, .ref (q 8)), (1, .ref (q 3))] := hl
  refine mu_in hH hlc (fun hS hP hD => ?_) hS hP hD
  clear hH hlc
  refine lv_aload_n hx hb dX1_collect_0 rfl (lv_at hl 0 rfl) ?_
  refine lv_iconst (v := 0) hx hb dX1_collect_1 (by decide) ?_
  refine va_put (D := (dC, dI)) (ci := 1) (v := .int 0) (ty := .int) (C := RX1) (T := TX1) (N := 6) hx hb hts (by decide +kernel) tyX1 tyX1_ok nmX1 hown hK hP hD hS 0 rfl rfl 5 (by decide) (hts (.fieldLink RX1 28 "AchromatDesk$DoubletRanking" "count" "I") (by decide +kernel)) (fun _ h9 => h9) rfl (by decide +kernel) rfl rfl (Nat.le_of_ble_eq_true rfl) dX1_collect_2 (fun H locs hP hD hS => ?_)
  have hP : va_P (dC, dI) vwCl [(q 8, .inr (1, [.ref (q 9), .ref (q 10), .ref (q 11), .ref (q 12), .ref (q 13), .int 0])), (q 9, .inl (cI, 190, .inl dc)), (q 10, .inl (cJ, 190, .inr (.inl dd))), (q 11, .inl (cJ, 190, .inr (.inl ds))), (q 12, .inl (cJ, 190, .inr (.inl dt))), (q 13, .inl (cI, 190, .inl od)), (q 3, .inr (0, [.ref (q 4), .ref (q 5), .ref (q 6), .ref (q 7), .int (nI n)])), (q 4, .inl (cJ, 20, .inr (.inl (gK G)))), (q 5, .inl (cI, 20, .inl (gF G))), (q 6, .inl (cI, 20, .inl (gD G))), (q 7, .inl (cI, 20, .inl (gC G)))] H := hP
  have hD : va_D A [(q 8, .inr (1, [.ref (q 9), .ref (q 10), .ref (q 11), .ref (q 12), .ref (q 13), .int 0])), (q 9, .inl (cI, 190, .inl dc)), (q 10, .inl (cJ, 190, .inr (.inl dd))), (q 11, .inl (cJ, 190, .inr (.inl ds))), (q 12, .inl (cJ, 190, .inr (.inl dt))), (q 13, .inl (cI, 190, .inl od)), (q 3, .inr (0, [.ref (q 4), .ref (q 5), .ref (q 6), .ref (q 7), .int (nI n)])), (q 4, .inl (cJ, 20, .inr (.inl (gK G)))), (q 5, .inl (cI, 20, .inl (gF G))), (q 6, .inl (cI, 20, .inl (gD G))), (q 7, .inl (cI, 20, .inl (gC G)))] := hD
  refine lv_iconst (v := 0) hx hb dX1_collect_5 (by decide) ?_
  refine lv_istore_n (lv' := [(2, .int 0), (0, .ref (q 8)), (1, .ref (q 3))]) hx hb dX1_collect_6 rfl hl (by decide) rfl (fun ls hl => ?_)
  refine rloopW (nL := 4) (D := (dC, dI)) (cl := vwCl) (A := A) 0 n (fun i z => col2 G n i z) ((0 : Nat), dc, dd, ds, dt) (fun k7 z7 => [(q 8, .inr (1, [.ref (q 9), .ref (q 10), .ref (q 11), .ref (q 12), .ref (q 13), .int (nI z7.1)])), (q 9, .inl (cI, 190, .inl z7.2.1)), (q 10, .inl (cJ, 190, .inr (.inl z7.2.2.1))), (q 11, .inl (cJ, 190, .inr (.inl z7.2.2.2.1))), (q 12, .inl (cJ, 190, .inr (.inl z7.2.2.2.2))), (q 13, .inl (cI, 190, .inl od)), (q 3, .inr (0, [.ref (q 4), .ref (q 5), .ref (q 6), .ref (q 7), .int (nI n)])), (q 4, .inl (cJ, 20, .inr (.inl (gK G)))), (q 5, .inl (cI, 20, .inl (gF G))), (q 6, .inl (cI, 20, .inl (gD G))), (q 7, .inl (cI, 20, .inl (gC G)))]) (fun k7 z7 => [(2, .int (nI k7)), (0, .ref (q 8)), (1, .ref (q 3))]) (fun _ _ => True) (by omega) (trivial) (show va_P (dC, dI) vwCl [(q 8, .inr (1, [.ref (q 9), .ref (q 10), .ref (q 11), .ref (q 12), .ref (q 13), .int (nI (((0 : Nat), dc, dd, ds, dt).1))])), (q 9, .inl (cI, 190, .inl (((0 : Nat), dc, dd, ds, dt).2.1))), (q 10, .inl (cJ, 190, .inr (.inl (((0 : Nat), dc, dd, ds, dt).2.2.1)))), (q 11, .inl (cJ, 190, .inr (.inl (((0 : Nat), dc, dd, ds, dt).2.2.2.1)))), (q 12, .inl (cJ, 190, .inr (.inl (((0 : Nat), dc, dd, ds, dt).2.2.2.2)))), (q 13, .inl (cI, 190, .inl od)), (q 3, .inr (0, [.ref (q 4), .ref (q 5), .ref (q 6), .ref (q 7), .int (nI n)])), (q 4, .inl (cJ, 20, .inr (.inl (gK G)))), (q 5, .inl (cI, 20, .inl (gF G))), (q 6, .inl (cI, 20, .inl (gD G))), (q 7, .inl (cI, 20, .inl (gC G)))] H from hP) (show va_D A [(q 8, .inr (1, [.ref (q 9), .ref (q 10), .ref (q 11), .ref (q 12), .ref (q 13), .int (nI (((0 : Nat), dc, dd, ds, dt).1))])), (q 9, .inl (cI, 190, .inl (((0 : Nat), dc, dd, ds, dt).2.1))), (q 10, .inl (cJ, 190, .inr (.inl (((0 : Nat), dc, dd, ds, dt).2.2.1)))), (q 11, .inl (cJ, 190, .inr (.inl (((0 : Nat), dc, dd, ds, dt).2.2.2.1)))), (q 12, .inl (cJ, 190, .inr (.inl (((0 : Nat), dc, dd, ds, dt).2.2.2.2)))), (q 13, .inl (cI, 190, .inl od)), (q 3, .inr (0, [.ref (q 4), .ref (q 5), .ref (q 6), .ref (q 7), .int (nI n)])), (q 4, .inl (cJ, 20, .inr (.inl (gK G)))), (q 5, .inl (cI, 20, .inl (gF G))), (q 6, .inl (cI, 20, .inl (gD G))), (q 7, .inl (cI, 20, .inl (gC G)))] from hD) hS (lv_sub hl [0, 1, 2] rfl) (fun k7 z7 hlo7 hk7 hz7 hI7 H locs ls hP hD hS hl ih7 => ?_) (fun z7 hz7 hI7 H locs ls hP hD hS hl => ?_)
  · have hP : va_P (dC, dI) vwCl [(q 8, .inr (1, [.ref (q 9), .ref (q 10), .ref (q 11), .ref (q 12), .ref (q 13), .int (nI z7.1)])), (q 9, .inl (cI, 190, .inl z7.2.1)), (q 10, .inl (cJ, 190, .inr (.inl z7.2.2.1))), (q 11, .inl (cJ, 190, .inr (.inl z7.2.2.2.1))), (q 12, .inl (cJ, 190, .inr (.inl z7.2.2.2.2))), (q 13, .inl (cI, 190, .inl od)), (q 3, .inr (0, [.ref (q 4), .ref (q 5), .ref (q 6), .ref (q 7), .int (nI n)])), (q 4, .inl (cJ, 20, .inr (.inl (gK G)))), (q 5, .inl (cI, 20, .inl (gF G))), (q 6, .inl (cI, 20, .inl (gD G))), (q 7, .inl (cI, 20, .inl (gC G)))] H := hP
    have hD : va_D A [(q 8, .inr (1, [.ref (q 9), .ref (q 10), .ref (q 11), .ref (q 12), .ref (q 13), .int (nI z7.1)])), (q 9, .inl (cI, 190, .inl z7.2.1)), (q 10, .inl (cJ, 190, .inr (.inl z7.2.2.1))), (q 11, .inl (cJ, 190, .inr (.inl z7.2.2.2.1))), (q 12, .inl (cJ, 190, .inr (.inl z7.2.2.2.2))), (q 13, .inl (cI, 190, .inl od)), (q 3, .inr (0, [.ref (q 4), .ref (q 5), .ref (q 6), .ref (q 7), .int (nI n)])), (q 4, .inl (cJ, 20, .inr (.inl (gK G)))), (q 5, .inl (cI, 20, .inl (gF G))), (q 6, .inl (cI, 20, .inl (gD G))), (q 7, .inl (cI, 20, .inl (gC G)))] := hD
    refine lv_iload_n hx hb dX1_collect_7 rfl (lv_at hl 0 rfl) ?_
    refine lv_aload_n hx hb dX1_collect_8 rfl (lv_at hl 2 rfl) ?_
    refine va_getN (D := (dC, dI)) (ci := 0) (v := .int (nI n)) (C := RX0) (T := TX0) (N := 5) hx hb hts (by decide +kernel) hown hK hP 6 rfl rfl 4 (by decide) (va_Nw.use (w := .fieldLinkNest "AchromatDesk$DoubletRanking" 32 "AchromatDesk$Catalogue" "count" "I" "AchromatDesk") rfl (hN.at 1 rfl)) (fun _ h9 => h9) rfl dX1_collect_9 ?_
    refine rn_ge (tgt := 65) hx hb k7 n rfl rfl (by omega) (by omega) dX1_collect_12 (by decide) (fun h12 => ?_) (fun h12 => ?_)
    · exfalso; omega
    · refine lv_iconst (v := 0) hx hb dX1_collect_15 (by decide) ?_
      refine lv_istore_n (lv' := [(3, .int 0), (2, .int (nI k7)), (0, .ref (q 8)), (1, .ref (q 3))]) hx hb dX1_collect_16 rfl hl (by decide) rfl (fun ls hl => ?_)
      refine rloopW (nL := 4) (D := (dC, dI)) (cl := vwCl) (A := A) 0 n (fun j z => col1 G k7 j z) z7 (fun k17 z17 => [(q 8, .inr (1, [.ref (q 9), .ref (q 10), .ref (q 11), .ref (q 12), .ref (q 13), .int (nI z17.1)])), (q 9, .inl (cI, 190, .inl z17.2.1)), (q 10, .inl (cJ, 190, .inr (.inl z17.2.2.1))), (q 11, .inl (cJ, 190, .inr (.inl z17.2.2.2.1))), (q 12, .inl (cJ, 190, .inr (.inl z17.2.2.2.2))), (q 13, .inl (cI, 190, .inl od)), (q 3, .inr (0, [.ref (q 4), .ref (q 5), .ref (q 6), .ref (q 7), .int (nI n)])), (q 4, .inl (cJ, 20, .inr (.inl (gK G)))), (q 5, .inl (cI, 20, .inl (gF G))), (q 6, .inl (cI, 20, .inl (gD G))), (q 7, .inl (cI, 20, .inl (gC G)))]) (fun k17 z17 => [(3, .int (nI k17)), (2, .int (nI k7)), (0, .ref (q 8)), (1, .ref (q 3))]) (fun _ _ => True) (by omega) (trivial) (show va_P (dC, dI) vwCl [(q 8, .inr (1, [.ref (q 9), .ref (q 10), .ref (q 11), .ref (q 12), .ref (q 13), .int (nI z7.1)])), (q 9, .inl (cI, 190, .inl z7.2.1)), (q 10, .inl (cJ, 190, .inr (.inl z7.2.2.1))), (q 11, .inl (cJ, 190, .inr (.inl z7.2.2.2.1))), (q 12, .inl (cJ, 190, .inr (.inl z7.2.2.2.2))), (q 13, .inl (cI, 190, .inl od)), (q 3, .inr (0, [.ref (q 4), .ref (q 5), .ref (q 6), .ref (q 7), .int (nI n)])), (q 4, .inl (cJ, 20, .inr (.inl (gK G)))), (q 5, .inl (cI, 20, .inl (gF G))), (q 6, .inl (cI, 20, .inl (gD G))), (q 7, .inl (cI, 20, .inl (gC G)))] H from hP) (show va_D A [(q 8, .inr (1, [.ref (q 9), .ref (q 10), .ref (q 11), .ref (q 12), .ref (q 13), .int (nI z7.1)])), (q 9, .inl (cI, 190, .inl z7.2.1)), (q 10, .inl (cJ, 190, .inr (.inl z7.2.2.1))), (q 11, .inl (cJ, 190, .inr (.inl z7.2.2.2.1))), (q 12, .inl (cJ, 190, .inr (.inl z7.2.2.2.2))), (q 13, .inl (cI, 190, .inl od)), (q 3, .inr (0, [.ref (q 4), .ref (q 5), .ref (q 6), .ref (q 7), .int (nI n)])), (q 4, .inl (cJ, 20, .inr (.inl (gK G)))), (q 5, .inl (cI, 20, .inl (gF G))), (q 6, .inl (cI, 20, .inl (gD G))), (q 7, .inl (cI, 20, .inl (gC G)))] from hD) hS (lv_sub hl [0, 1, 2, 3] rfl) (fun k17 z17 hlo17 hk17 hz17 hI17 H locs ls hP hD hS hl ih17 => ?_) (fun z17 hz17 hI17 H locs ls hP hD hS hl => ?_)
      · have hP : va_P (dC, dI) vwCl [(q 8, .inr (1, [.ref (q 9), .ref (q 10), .ref (q 11), .ref (q 12), .ref (q 13), .int (nI z17.1)])), (q 9, .inl (cI, 190, .inl z17.2.1)), (q 10, .inl (cJ, 190, .inr (.inl z17.2.2.1))), (q 11, .inl (cJ, 190, .inr (.inl z17.2.2.2.1))), (q 12, .inl (cJ, 190, .inr (.inl z17.2.2.2.2))), (q 13, .inl (cI, 190, .inl od)), (q 3, .inr (0, [.ref (q 4), .ref (q 5), .ref (q 6), .ref (q 7), .int (nI n)])), (q 4, .inl (cJ, 20, .inr (.inl (gK G)))), (q 5, .inl (cI, 20, .inl (gF G))), (q 6, .inl (cI, 20, .inl (gD G))), (q 7, .inl (cI, 20, .inl (gC G)))] H := hP
        have hD : va_D A [(q 8, .inr (1, [.ref (q 9), .ref (q 10), .ref (q 11), .ref (q 12), .ref (q 13), .int (nI z17.1)])), (q 9, .inl (cI, 190, .inl z17.2.1)), (q 10, .inl (cJ, 190, .inr (.inl z17.2.2.1))), (q 11, .inl (cJ, 190, .inr (.inl z17.2.2.2.1))), (q 12, .inl (cJ, 190, .inr (.inl z17.2.2.2.2))), (q 13, .inl (cI, 190, .inl od)), (q 3, .inr (0, [.ref (q 4), .ref (q 5), .ref (q 6), .ref (q 7), .int (nI n)])), (q 4, .inl (cJ, 20, .inr (.inl (gK G)))), (q 5, .inl (cI, 20, .inl (gF G))), (q 6, .inl (cI, 20, .inl (gD G))), (q 7, .inl (cI, 20, .inl (gC G)))] := hD
        refine lv_iload_n hx hb dX1_collect_17 rfl (lv_at hl 0 rfl) ?_
        refine lv_aload_n hx hb dX1_collect_18 rfl (lv_at hl 3 rfl) ?_
        refine va_getN (D := (dC, dI)) (ci := 0) (v := .int (nI n)) (C := RX0) (T := TX0) (N := 5) hx hb hts (by decide +kernel) hown hK hP 6 rfl rfl 4 (by decide) (va_Nw.use (w := .fieldLinkNest "AchromatDesk$DoubletRanking" 32 "AchromatDesk$Catalogue" "count" "I" "AchromatDesk") rfl (hN.at 1 rfl)) (fun _ h9 => h9) rfl dX1_collect_19 ?_
        refine rn_ge (tgt := 59) hx hb k17 n rfl rfl (by omega) (by omega) dX1_collect_22 (by decide) (fun h22 => ?_) (fun h22 => ?_)
        · exfalso; omega
        · refine lv_aload_n hx hb dX1_collect_25 rfl (lv_at hl 3 rfl) ?_
          refine lv_iload_n hx hb dX1_collect_26 rfl (lv_at hl 1 rfl) ?_
          refine lv_iload_n hx hb dX1_collect_27 rfl (lv_at hl 0 rfl) ?_
          refine roVl (As := [.int (nI k7), .int (nI k17)]) (rest := []) (c_X0_valueE l dC dI cI cJ q G n hn k7 k17 (by omega) (by omega)) ⟨hx, hb, hml, hown, hts⟩ (cwV 2 hts gX1_collect_X0_valueE rfl rfl rfl (by decide +kernel) ⟨Nat.le_of_ble_eq_true rfl, Nat.le_of_ble_eq_true rfl⟩) (hP.sub [6, 7, 8, 9, 10] rfl) hK hN (ci := 0) rfl rfl rfl hl.1 rfl (Nat.le_of_ble_eq_true rfl) dX1_collect_28 ⟨Nat.zero_le _, Nat.zero_le _⟩ (fun r hr0 => ?_)
          subst hr0
          refine lv_lconst (v := 0) hx hb dX1_collect_31 (by decide) ?_
          refine rl_ifle (tgt := 53) hx hb dX1_collect_32 dX1_collect_33 (by decide) (fun h32 => ?_) (fun h32 => ?_)
          · refine lv_iinc (v := nI (k17 + 1)) (lv' := [(3, .int (nI (k17 + 1))), (2, .int (nI k7)), (0, .ref (q 8)), (1, .ref (q 3))]) hx hb dX1_collect_53 hl (k := 0) rfl (by first | rfl | exact nI_add _ _) (by decide) rfl (fun ls hl => ?_)
            refine lv_goto (tgt := 17) hx hb dX1_collect_56 (by decide) ?_
            exact ih17 z17 ((if_neg h32).symm) (trivial) H locs ls (show va_P (dC, dI) vwCl [(q 8, .inr (1, [.ref (q 9), .ref (q 10), .ref (q 11), .ref (q 12), .ref (q 13), .int (nI z17.1)])), (q 9, .inl (cI, 190, .inl z17.2.1)), (q 10, .inl (cJ, 190, .inr (.inl z17.2.2.1))), (q 11, .inl (cJ, 190, .inr (.inl z17.2.2.2.1))), (q 12, .inl (cJ, 190, .inr (.inl z17.2.2.2.2))), (q 13, .inl (cI, 190, .inl od)), (q 3, .inr (0, [.ref (q 4), .ref (q 5), .ref (q 6), .ref (q 7), .int (nI n)])), (q 4, .inl (cJ, 20, .inr (.inl (gK G)))), (q 5, .inl (cI, 20, .inl (gF G))), (q 6, .inl (cI, 20, .inl (gD G))), (q 7, .inl (cI, 20, .inl (gC G)))] H from hP) (show va_D A [(q 8, .inr (1, [.ref (q 9), .ref (q 10), .ref (q 11), .ref (q 12), .ref (q 13), .int (nI z17.1)])), (q 9, .inl (cI, 190, .inl z17.2.1)), (q 10, .inl (cJ, 190, .inr (.inl z17.2.2.1))), (q 11, .inl (cJ, 190, .inr (.inl z17.2.2.2.1))), (q 12, .inl (cJ, 190, .inr (.inl z17.2.2.2.2))), (q 13, .inl (cI, 190, .inl od)), (q 3, .inr (0, [.ref (q 4), .ref (q 5), .ref (q 6), .ref (q 7), .int (nI n)])), (q 4, .inl (cJ, 20, .inr (.inl (gK G)))), (q 5, .inl (cI, 20, .inl (gF G))), (q 6, .inl (cI, 20, .inl (gD G))), (q 7, .inl (cI, 20, .inl (gC G)))] from hD) hS (lv_sub hl [0, 1, 2, 3] rfl)
          · have hc1 : z17.1 < 190 := by rw [hz17, hz7]; exact hcl k7 k17 (by omega) (by omega) h32
            refine lv_aload_n hx hb dX1_collect_36 rfl (lv_at hl 2 rfl) ?_
            refine va_get (D := (dC, dI)) (ci := 1) (v := .int (nI z17.1)) (C := RX1) (T := TX1) (N := 6) hx hb hts (by decide +kernel) hown hK hP 0 rfl rfl 5 (by decide) (hts (.fieldLink RX1 28 "AchromatDesk$DoubletRanking" "count" "I") (by decide +kernel)) (fun _ h9 => h9) rfl dX1_collect_37 ?_
            refine lv_sipush (v := 190) hx hb dX1_collect_40 (by decide) ?_
            refine rn_ge (tgt := 53) hx hb z17.1 190 rfl rfl (by omega) (by omega) dX1_collect_43 (by decide) (fun h43 => ?_) (fun h43 => ?_)
            · exfalso; omega
            · refine lv_aload_n hx hb dX1_collect_46 rfl (lv_at hl 2 rfl) ?_
              refine lv_iload_n hx hb dX1_collect_47 rfl (lv_at hl 1 rfl) ?_
              refine lv_iload_n hx hb dX1_collect_48 rfl (lv_at hl 0 rfl) ?_
              refine lv_aload_n hx hb dX1_collect_49 rfl (lv_at hl 3 rfl) ?_
              refine muVv (As := [.int (nI k7), .int (nI k17), .ref (q 3)]) (rest := []) (wr := []) (c_X1_keep l dC dI cI cJ H.size q G n hn z17.1 z17.2.1 z17.2.2.1 z17.2.2.2.1 z17.2.2.2.2 od (by omega) k7 k17 (by omega) (by omega)) ⟨hx, hb, hml, hown, hts⟩ (cwV 3 hts gX1_collect_X1_keep rfl rfl rfl (by decide +kernel) ⟨Nat.le_of_ble_eq_true rfl, Nat.le_of_ble_eq_true rfl⟩) hP hD hS hA hK hN [0, 1, 2, 3, 4, 5, 6, 7, 8, 9, 10] [] rfl rfl (by decide) rfl (by decide) (by decide) (ci := 1) rfl rfl rfl hl.1 rfl (Nat.le_of_ble_eq_true rfl) dX1_collect_50 ⟨Nat.le_of_ble_eq_true rfl, Nat.le_of_ble_eq_true rfl⟩ (fun _ H locs hr0 hP hD hS => ?_)
              have hP := hP.sub (ws' := [(q 8, .inr (1, [.ref (q 9), .ref (q 10), .ref (q 11), .ref (q 12), .ref (q 13), .int (nI (z17.1 + 1))])), (q 9, .inl (cI, 190, .inl (upd z17.2.1 z17.1 (nI (100 * k7 + k17))))), (q 10, .inl (cJ, 190, .inr (.inl (vp_updL z17.2.2.1 z17.1 (vE G k7 k17))))), (q 11, .inl (cJ, 190, .inr (.inl (vp_updL z17.2.2.2.1 z17.1 (labs (vX G k17 k7)))))), (q 12, .inl (cJ, 190, .inr (.inl (vp_updL z17.2.2.2.2 z17.1 (vStr G k7 k17))))), (q 13, .inl (cI, 190, .inl od)), (q 3, .inr (0, [.ref (q 4), .ref (q 5), .ref (q 6), .ref (q 7), .int (nI n)])), (q 4, .inl (cJ, 20, .inr (.inl (gK G)))), (q 5, .inl (cI, 20, .inl (gF G))), (q 6, .inl (cI, 20, .inl (gD G))), (q 7, .inl (cI, 20, .inl (gC G)))]) [0, 1, 2, 3, 4, 5, 6, 7, 8, 9, 10] rfl
              have hD := hD.sub (ws' := [(q 8, .inr (1, [.ref (q 9), .ref (q 10), .ref (q 11), .ref (q 12), .ref (q 13), .int (nI (z17.1 + 1))])), (q 9, .inl (cI, 190, .inl (upd z17.2.1 z17.1 (nI (100 * k7 + k17))))), (q 10, .inl (cJ, 190, .inr (.inl (vp_updL z17.2.2.1 z17.1 (vE G k7 k17))))), (q 11, .inl (cJ, 190, .inr (.inl (vp_updL z17.2.2.2.1 z17.1 (labs (vX G k17 k7)))))), (q 12, .inl (cJ, 190, .inr (.inl (vp_updL z17.2.2.2.2 z17.1 (vStr G k7 k17))))), (q 13, .inl (cI, 190, .inl od)), (q 3, .inr (0, [.ref (q 4), .ref (q 5), .ref (q 6), .ref (q 7), .int (nI n)])), (q 4, .inl (cJ, 20, .inr (.inl (gK G)))), (q 5, .inl (cI, 20, .inl (gF G))), (q 6, .inl (cI, 20, .inl (gD G))), (q 7, .inl (cI, 20, .inl (gC G)))]) [0, 1, 2, 3, 4, 5, 6, 7, 8, 9, 10] (by decide) rfl
              refine lv_iinc (v := nI (k17 + 1)) (lv' := [(3, .int (nI (k17 + 1))), (2, .int (nI k7)), (0, .ref (q 8)), (1, .ref (q 3))]) hx hb dX1_collect_53 hl (k := 0) rfl (by first | rfl | exact nI_add _ _) (by decide) rfl (fun ls hl => ?_)
              refine lv_goto (tgt := 17) hx hb dX1_collect_56 (by decide) ?_
              exact ih17 (kp G k7 k17 z17) ((if_pos h32).symm) (trivial) H locs ls (show va_P (dC, dI) vwCl [(q 8, .inr (1, [.ref (q 9), .ref (q 10), .ref (q 11), .ref (q 12), .ref (q 13), .int (nI ((kp G k7 k17 z17).1))])), (q 9, .inl (cI, 190, .inl ((kp G k7 k17 z17).2.1))), (q 10, .inl (cJ, 190, .inr (.inl ((kp G k7 k17 z17).2.2.1)))), (q 11, .inl (cJ, 190, .inr (.inl ((kp G k7 k17 z17).2.2.2.1)))), (q 12, .inl (cJ, 190, .inr (.inl ((kp G k7 k17 z17).2.2.2.2)))), (q 13, .inl (cI, 190, .inl od)), (q 3, .inr (0, [.ref (q 4), .ref (q 5), .ref (q 6), .ref (q 7), .int (nI n)])), (q 4, .inl (cJ, 20, .inr (.inl (gK G)))), (q 5, .inl (cI, 20, .inl (gF G))), (q 6, .inl (cI, 20, .inl (gD G))), (q 7, .inl (cI, 20, .inl (gC G)))] H from hP) (show va_D A [(q 8, .inr (1, [.ref (q 9), .ref (q 10), .ref (q 11), .ref (q 12), .ref (q 13), .int (nI ((kp G k7 k17 z17).1))])), (q 9, .inl (cI, 190, .inl ((kp G k7 k17 z17).2.1))), (q 10, .inl (cJ, 190, .inr (.inl ((kp G k7 k17 z17).2.2.1)))), (q 11, .inl (cJ, 190, .inr (.inl ((kp G k7 k17 z17).2.2.2.1)))), (q 12, .inl (cJ, 190, .inr (.inl ((kp G k7 k17 z17).2.2.2.2)))), (q 13, .inl (cI, 190, .inl od)), (q 3, .inr (0, [.ref (q 4), .ref (q 5), .ref (q 6), .ref (q 7), .int (nI n)])), (q 4, .inl (cJ, 20, .inr (.inl (gK G)))), (q 5, .inl (cI, 20, .inl (gF G))), (q 6, .inl (cI, 20, .inl (gD G))), (q 7, .inl (cI, 20, .inl (gC G)))] from hD) hS (lv_sub hl [0, 1, 2, 3] rfl)
      · have hP : va_P (dC, dI) vwCl [(q 8, .inr (1, [.ref (q 9), .ref (q 10), .ref (q 11), .ref (q 12), .ref (q 13), .int (nI z17.1)])), (q 9, .inl (cI, 190, .inl z17.2.1)), (q 10, .inl (cJ, 190, .inr (.inl z17.2.2.1))), (q 11, .inl (cJ, 190, .inr (.inl z17.2.2.2.1))), (q 12, .inl (cJ, 190, .inr (.inl z17.2.2.2.2))), (q 13, .inl (cI, 190, .inl od)), (q 3, .inr (0, [.ref (q 4), .ref (q 5), .ref (q 6), .ref (q 7), .int (nI n)])), (q 4, .inl (cJ, 20, .inr (.inl (gK G)))), (q 5, .inl (cI, 20, .inl (gF G))), (q 6, .inl (cI, 20, .inl (gD G))), (q 7, .inl (cI, 20, .inl (gC G)))] H := hP
        have hD : va_D A [(q 8, .inr (1, [.ref (q 9), .ref (q 10), .ref (q 11), .ref (q 12), .ref (q 13), .int (nI z17.1)])), (q 9, .inl (cI, 190, .inl z17.2.1)), (q 10, .inl (cJ, 190, .inr (.inl z17.2.2.1))), (q 11, .inl (cJ, 190, .inr (.inl z17.2.2.2.1))), (q 12, .inl (cJ, 190, .inr (.inl z17.2.2.2.2))), (q 13, .inl (cI, 190, .inl od)), (q 3, .inr (0, [.ref (q 4), .ref (q 5), .ref (q 6), .ref (q 7), .int (nI n)])), (q 4, .inl (cJ, 20, .inr (.inl (gK G)))), (q 5, .inl (cI, 20, .inl (gF G))), (q 6, .inl (cI, 20, .inl (gD G))), (q 7, .inl (cI, 20, .inl (gC G)))] := hD
        refine lv_iload_n hx hb dX1_collect_17 rfl (lv_at hl 0 rfl) ?_
        refine lv_aload_n hx hb dX1_collect_18 rfl (lv_at hl 3 rfl) ?_
        refine va_getN (D := (dC, dI)) (ci := 0) (v := .int (nI n)) (C := RX0) (T := TX0) (N := 5) hx hb hts (by decide +kernel) hown hK hP 6 rfl rfl 4 (by decide) (va_Nw.use (w := .fieldLinkNest "AchromatDesk$DoubletRanking" 32 "AchromatDesk$Catalogue" "count" "I" "AchromatDesk") rfl (hN.at 1 rfl)) (fun _ h9 => h9) rfl dX1_collect_19 ?_
        refine rn_ge (tgt := 59) hx hb n n rfl rfl (by omega) (by omega) dX1_collect_22 (by decide) (fun h22 => ?_) (fun h22 => ?_)
        · refine lv_iinc (v := nI (k7 + 1)) (lv' := [(2, .int (nI (k7 + 1))), (3, .int (nI n)), (0, .ref (q 8)), (1, .ref (q 3))]) hx hb dX1_collect_59 hl (k := 1) rfl (by first | rfl | exact nI_add _ _) (by decide) rfl (fun ls hl => ?_)
          refine lv_goto (tgt := 7) hx hb dX1_collect_62 (by decide) ?_
          exact ih7 z17 (hz17) (trivial) H locs ls (show va_P (dC, dI) vwCl [(q 8, .inr (1, [.ref (q 9), .ref (q 10), .ref (q 11), .ref (q 12), .ref (q 13), .int (nI z17.1)])), (q 9, .inl (cI, 190, .inl z17.2.1)), (q 10, .inl (cJ, 190, .inr (.inl z17.2.2.1))), (q 11, .inl (cJ, 190, .inr (.inl z17.2.2.2.1))), (q 12, .inl (cJ, 190, .inr (.inl z17.2.2.2.2))), (q 13, .inl (cI, 190, .inl od)), (q 3, .inr (0, [.ref (q 4), .ref (q 5), .ref (q 6), .ref (q 7), .int (nI n)])), (q 4, .inl (cJ, 20, .inr (.inl (gK G)))), (q 5, .inl (cI, 20, .inl (gF G))), (q 6, .inl (cI, 20, .inl (gD G))), (q 7, .inl (cI, 20, .inl (gC G)))] H from hP) (show va_D A [(q 8, .inr (1, [.ref (q 9), .ref (q 10), .ref (q 11), .ref (q 12), .ref (q 13), .int (nI z17.1)])), (q 9, .inl (cI, 190, .inl z17.2.1)), (q 10, .inl (cJ, 190, .inr (.inl z17.2.2.1))), (q 11, .inl (cJ, 190, .inr (.inl z17.2.2.2.1))), (q 12, .inl (cJ, 190, .inr (.inl z17.2.2.2.2))), (q 13, .inl (cI, 190, .inl od)), (q 3, .inr (0, [.ref (q 4), .ref (q 5), .ref (q 6), .ref (q 7), .int (nI n)])), (q 4, .inl (cJ, 20, .inr (.inl (gK G)))), (q 5, .inl (cI, 20, .inl (gF G))), (q 6, .inl (cI, 20, .inl (gD G))), (q 7, .inl (cI, 20, .inl (gC G)))] from hD) hS (lv_sub hl [0, 2, 3] rfl)
        · exfalso; omega
  · have hP : va_P (dC, dI) vwCl [(q 8, .inr (1, [.ref (q 9), .ref (q 10), .ref (q 11), .ref (q 12), .ref (q 13), .int (nI z7.1)])), (q 9, .inl (cI, 190, .inl z7.2.1)), (q 10, .inl (cJ, 190, .inr (.inl z7.2.2.1))), (q 11, .inl (cJ, 190, .inr (.inl z7.2.2.2.1))), (q 12, .inl (cJ, 190, .inr (.inl z7.2.2.2.2))), (q 13, .inl (cI, 190, .inl od)), (q 3, .inr (0, [.ref (q 4), .ref (q 5), .ref (q 6), .ref (q 7), .int (nI n)])), (q 4, .inl (cJ, 20, .inr (.inl (gK G)))), (q 5, .inl (cI, 20, .inl (gF G))), (q 6, .inl (cI, 20, .inl (gD G))), (q 7, .inl (cI, 20, .inl (gC G)))] H := hP
    have hD : va_D A [(q 8, .inr (1, [.ref (q 9), .ref (q 10), .ref (q 11), .ref (q 12), .ref (q 13), .int (nI z7.1)])), (q 9, .inl (cI, 190, .inl z7.2.1)), (q 10, .inl (cJ, 190, .inr (.inl z7.2.2.1))), (q 11, .inl (cJ, 190, .inr (.inl z7.2.2.2.1))), (q 12, .inl (cJ, 190, .inr (.inl z7.2.2.2.2))), (q 13, .inl (cI, 190, .inl od)), (q 3, .inr (0, [.ref (q 4), .ref (q 5), .ref (q 6), .ref (q 7), .int (nI n)])), (q 4, .inl (cJ, 20, .inr (.inl (gK G)))), (q 5, .inl (cI, 20, .inl (gF G))), (q 6, .inl (cI, 20, .inl (gD G))), (q 7, .inl (cI, 20, .inl (gC G)))] := hD
    refine lv_iload_n hx hb dX1_collect_7 rfl (lv_at hl 0 rfl) ?_
    refine lv_aload_n hx hb dX1_collect_8 rfl (lv_at hl 2 rfl) ?_
    refine va_getN (D := (dC, dI)) (ci := 0) (v := .int (nI n)) (C := RX0) (T := TX0) (N := 5) hx hb hts (by decide +kernel) hown hK hP 6 rfl rfl 4 (by decide) (va_Nw.use (w := .fieldLinkNest "AchromatDesk$DoubletRanking" 32 "AchromatDesk$Catalogue" "count" "I" "AchromatDesk") rfl (hN.at 1 rfl)) (fun _ h9 => h9) rfl dX1_collect_9 ?_
    refine rn_ge (tgt := 65) hx hb n n rfl rfl (by omega) (by omega) dX1_collect_12 (by decide) (fun h12 => ?_) (fun h12 => ?_)
    · exact W.vret hx hb hr (fun t ht hW => ⟨⟨z7, rfl, hz7, by rw [ht]; exact hP, by rw [hAe]; exact hD⟩, hS.F ht⟩) hS.2.2 dX1_collect_65
    · exfalso; omega

set_option maxHeartbeats 4000000 in
set_option maxRecDepth 100000 in
theorem c_X1_rank (l : Launch) (dC : Nat → ClassId) (dI : Nat → Nat → Nat) (cI cJ : ClassId) (sz : Nat) (q : Nat → Nat) (dn : Nat) (dc : Nat → Int32) (dd ds dt : Nat → Int64) (od : Nat → Int32) (hdn : dn ≤ 190) (bs : Int32) (hrk : ∀ k, k < dn → lOK (rkO dd ds dt bs od k) k k ∧ mono dd ds dt bs (rkO dd ds dt bs od k) k) : Met l yX1_rank wsX1_rank ({ frames := 3, cells := 0, slots := 0, locals := 73 }) (va_Pc [.ref (q 8), .int bs] (MU (dC, dI) (tyK cI cJ) ([(q 8, .inr (1, [.ref (q 9), .ref (q 10), .ref (q 11), .ref (q 12), .ref (q 13), .int (nI dn)])), (q 9, .inl (cI, 190, .inl dc)), (q 10, .inl (cJ, 190, .inr (.inl dd))), (q 11, .inl (cJ, 190, .inr (.inl ds))), (q 12, .inl (cJ, 190, .inr (.inl dt))), (q 13, .inl (cI, 190, .inl od))]) sz)) (va_Qv (fun _ => True) (MB (dC, dI) ([(q 8, .inr (1, [.ref (q 9), .ref (q 10), .ref (q 11), .ref (q 12), .ref (q 13), .int (nI dn)])), (q 9, .inl (cI, 190, .inl dc)), (q 10, .inl (cJ, 190, .inr (.inl dd))), (q 11, .inl (cJ, 190, .inr (.inl ds))), (q 12, .inl (cJ, 190, .inr (.inl dt))), (q 13, .inl (cI, 190, .inl od))]) sz (fun (_ : Unit) => [(q 8, .inr (1, [.ref (q 9), .ref (q 10), .ref (q 11), .ref (q 12), .ref (q 13), .int (nI dn)])), (q 9, .inl (cI, 190, .inl dc)), (q 10, .inl (cJ, 190, .inr (.inl dd))), (q 11, .inl (cJ, 190, .inr (.inl ds))), (q 12, .inl (cJ, 190, .inr (.inl dt))), (q 13, .inl (cI, 190, .inl (rkO dd ds dt bs od dn)))])) (va_A ([(q 8, .inr (1, [.ref (q 9), .ref (q 10), .ref (q 11), .ref (q 12), .ref (q 13), .int (nI dn)])), (q 9, .inl (cI, 190, .inl dc)), (q 10, .inl (cJ, 190, .inr (.inl dd))), (q 11, .inl (cJ, 190, .inr (.inl ds))), (q 12, .inl (cJ, 190, .inr (.inl dt))), (q 13, .inl (cI, 190, .inl od))]) sz)) 0 0 (va_A ([(q 8, .inr (1, [.ref (q 9), .ref (q 10), .ref (q 11), .ref (q 12), .ref (q 13), .int (nI dn)])), (q 9, .inl (cI, 190, .inl dc)), (q 10, .inl (cJ, 190, .inr (.inl dd))), (q 11, .inl (cJ, 190, .inr (.inl ds))), (q 12, .inl (cJ, 190, .inr (.inl dt))), (q 13, .inl (cI, 190, .inl od))]) sz) := by
  refine Met.ofW (cc := cX1_rank) (maxL := 5) (ret := none) (by decide) rfl ?_
  intro p e s m args below meth c s₁ B hml hv
  obtain ⟨rfl, hsz, hP, hK, hN, hD0⟩ := hv
  have hx := B.exec
  have hb := B.bytes
  have hr := B.returns
  have hts := atoms_spec (ws := wsX1_rank) B.pre
  have hown : s.vm.findClass RX1 = some m.cls := findClass_of_methodNamed B.named
  have hlocks := B.notSynchronized
  subst hsz
  have hD := hD0.self (sz := s.heap.size)
  generalize hAe : va_A ([(q 8, .inr (1, [.ref (q 9), .ref (q 10), .ref (q 11), .ref (q 12), .ref (q 13), .int (nI dn)])), (q 9, .inl (cI, 190, .inl dc)), (q 10, .inl (cJ, 190, .inr (.inl dd))), (q 11, .inl (cJ, 190, .inr (.inl ds))), (q 12, .inl (cJ, 190, .inr (.inl dt))), (q 13, .inl (cI, 190, .inl od))]) s.heap.size = A at hD ⊢
  have hA : ∀ q : Nat, s.heap.size ≤ q → A q := fun q h => by rw [← hAe]; exact Or.inr h
  have hS : va_S A s.heap s.heap [] := va_S.rf
  have hP : va_P (dC, dI) vwCl [(q 8, .inr (1, [.ref (q 9), .ref (q 10), .ref (q 11), .ref (q 12), .ref (q 13), .int (nI dn)])), (q 9, .inl (cI, 190, .inl dc)), (q 10, .inl (cJ, 190, .inr (.inl dd))), (q 11, .inl (cJ, 190, .inr (.inl ds))), (q 12, .inl (cJ, 190, .inr (.inl dt))), (q 13, .inl (cI, 190, .inl od))] s.heap := hP
  have hD : va_D A [(q 8, .inr (1, [.ref (q 9), .ref (q 10), .ref (q 11), .ref (q 12), .ref (q 13), .int (nI dn)])), (q 9, .inl (cI, 190, .inl dc)), (q 10, .inl (cJ, 190, .inr (.inl dd))), (q 11, .inl (cJ, 190, .inr (.inl ds))), (q 12, .inl (cJ, 190, .inr (.inl dt))), (q 13, .inl (cI, 190, .inl od))] := hD
  obtain ⟨H, hH⟩ : ∃ H : Heap, H = s.heap := ⟨_, rfl⟩
  obtain ⟨locs, hlc⟩ : ∃ locs : List Loc, locs = [] := ⟨_, rfl⟩
  have hl := lv_entry ([.ref (q 8), .int bs]) (n := 5) (Nat.le_of_ble_eq_true rfl)
  rw [lg_entry_eq]
  generalize (lg_sl ([.ref (q 8), .int bs]) ++ List.replicate (5 - (lg_sl ([.ref (q 8), .int bs])).length) Slot.unset).toArray = ls at hl ⊢
  have hl : lv_has ls 5 [(0, .ref (q 8)), (1, .int bs)] := hl
  refine mu_in hH hlc (fun hS hP hD => ?_) hS hP hD
  clear hH hlc
  refine lv_iconst (v := 0) hx hb dX1_rank_0 (by decide) ?_
  refine lv_istore_n (lv' := [(2, .int 0), (0, .ref (q 8)), (1, .int bs)]) hx hb dX1_rank_1 rfl hl (by decide) rfl (fun ls hl => ?_)
  refine rloopW (nL := 5) (D := (dC, dI)) (cl := vwCl) (A := A) 0 dn (fun k od => rkf dd ds dt bs k od) od (fun k2 z2 => [(q 8, .inr (1, [.ref (q 9), .ref (q 10), .ref (q 11), .ref (q 12), .ref (q 13), .int (nI dn)])), (q 9, .inl (cI, 190, .inl dc)), (q 10, .inl (cJ, 190, .inr (.inl dd))), (q 11, .inl (cJ, 190, .inr (.inl ds))), (q 12, .inl (cJ, 190, .inr (.inl dt))), (q 13, .inl (cI, 190, .inl z2))]) (fun k2 z2 => [(2, .int (nI k2)), (0, .ref (q 8)), (1, .int bs)]) (fun _ _ => True) (by omega) (trivial) (show va_P (dC, dI) vwCl [(q 8, .inr (1, [.ref (q 9), .ref (q 10), .ref (q 11), .ref (q 12), .ref (q 13), .int (nI dn)])), (q 9, .inl (cI, 190, .inl dc)), (q 10, .inl (cJ, 190, .inr (.inl dd))), (q 11, .inl (cJ, 190, .inr (.inl ds))), (q 12, .inl (cJ, 190, .inr (.inl dt))), (q 13, .inl (cI, 190, .inl od))] H from hP) (show va_D A [(q 8, .inr (1, [.ref (q 9), .ref (q 10), .ref (q 11), .ref (q 12), .ref (q 13), .int (nI dn)])), (q 9, .inl (cI, 190, .inl dc)), (q 10, .inl (cJ, 190, .inr (.inl dd))), (q 11, .inl (cJ, 190, .inr (.inl ds))), (q 12, .inl (cJ, 190, .inr (.inl dt))), (q 13, .inl (cI, 190, .inl od))] from hD) hS (lv_sub hl [0, 1, 2] rfl) (fun k2 z2 hlo2 hk2 hz2 hI2 H locs ls hP hD hS hl ih2 => ?_) (fun z2 hz2 hI2 H locs ls hP hD hS hl => ?_)
  · have hP : va_P (dC, dI) vwCl [(q 8, .inr (1, [.ref (q 9), .ref (q 10), .ref (q 11), .ref (q 12), .ref (q 13), .int (nI dn)])), (q 9, .inl (cI, 190, .inl dc)), (q 10, .inl (cJ, 190, .inr (.inl dd))), (q 11, .inl (cJ, 190, .inr (.inl ds))), (q 12, .inl (cJ, 190, .inr (.inl dt))), (q 13, .inl (cI, 190, .inl z2))] H := hP
    have hD : va_D A [(q 8, .inr (1, [.ref (q 9), .ref (q 10), .ref (q 11), .ref (q 12), .ref (q 13), .int (nI dn)])), (q 9, .inl (cI, 190, .inl dc)), (q 10, .inl (cJ, 190, .inr (.inl dd))), (q 11, .inl (cJ, 190, .inr (.inl ds))), (q 12, .inl (cJ, 190, .inr (.inl dt))), (q 13, .inl (cI, 190, .inl z2))] := hD
    have hz2b : z2 = rkO dd ds dt bs od k2 := hz2
    have hrl : lOK z2 k2 k2 := by rw [hz2b]; exact (hrk k2 (by omega)).1
    have hrm : mono dd ds dt bs z2 k2 := by rw [hz2b]; exact (hrk k2 (by omega)).2
    have hpl := plc_le dd ds dt bs z2 k2
    refine lv_iload_n hx hb dX1_rank_2 rfl (lv_at hl 0 rfl) ?_
    refine lv_aload_n hx hb dX1_rank_3 rfl (lv_at hl 1 rfl) ?_
    refine va_get (D := (dC, dI)) (ci := 1) (v := .int (nI dn)) (C := RX1) (T := TX1) (N := 6) hx hb hts (by decide +kernel) hown hK hP 0 rfl rfl 5 (by decide) (hts (.fieldLink RX1 28 "AchromatDesk$DoubletRanking" "count" "I") (by decide +kernel)) (fun _ h9 => h9) rfl dX1_rank_4 ?_
    refine rn_ge (tgt := 61) hx hb k2 dn rfl rfl (by omega) (by omega) dX1_rank_7 (by decide) (fun h7 => ?_) (fun h7 => ?_)
    · exfalso; omega
    · refine lv_aload_n hx hb dX1_rank_10 rfl (lv_at hl 1 rfl) ?_
      refine lv_iload_n hx hb dX1_rank_11 rfl (lv_at hl 0 rfl) ?_
      refine lv_iload_n hx hb dX1_rank_12 rfl (lv_at hl 2 rfl) ?_
      refine roVi (As := [.int (nI k2), .int bs]) (rest := []) (c_X1_placeAmong l dC dI cI cJ q dn dc dd ds dt z2 k2 (by omega) bs (by assumption) (by assumption)) ⟨hx, hb, hml, hown, hts⟩ (cwV 2 hts gX1_rank_X1_placeAmong rfl rfl rfl (by decide +kernel) ⟨Nat.le_of_ble_eq_true rfl, Nat.le_of_ble_eq_true rfl⟩) (hP.sub [0, 1, 2, 3, 4, 5] rfl) hK hN (ci := 1) rfl rfl rfl hl.1 rfl (Nat.le_of_ble_eq_true rfl) dX1_rank_13 ⟨Nat.zero_le _, Nat.zero_le _⟩ (fun r hr0 => ?_)
      subst hr0
      refine lv_istore_n (lv' := [(3, .int (nI (plc dd ds dt bs z2 k2))), (2, .int (nI k2)), (0, .ref (q 8)), (1, .int bs)]) hx hb dX1_rank_16 rfl hl (by decide) rfl (fun ls hl => ?_)
      refine lv_iload_n hx hb dX1_rank_17 rfl (lv_at hl 1 rfl) ?_
      refine lv_istore (lv' := [(4, .int (nI k2)), (3, .int (nI (plc dd ds dt bs z2 k2))), (2, .int (nI k2)), (0, .ref (q 8)), (1, .int bs)]) hx hb dX1_rank_18 hl (by decide) rfl (fun ls hl => ?_)
      refine rloopH (σ := Nat) (nL := 5) (D := (dC, dI)) (cl := vwCl) (A := A) (fun z => z) (fun z20 => [(q 8, .inr (1, [.ref (q 9), .ref (q 10), .ref (q 11), .ref (q 12), .ref (q 13), .int (nI dn)])), (q 9, .inl (cI, 190, .inl dc)), (q 10, .inl (cJ, 190, .inr (.inl dd))), (q 11, .inl (cJ, 190, .inr (.inl ds))), (q 12, .inl (cJ, 190, .inr (.inl dt))), (q 13, .inl (cI, 190, .inl (shu z2 z20 k2)))]) (fun z20 => [(4, .int (nI z20)), (3, .int (nI (plc dd ds dt bs z2 k2))), (2, .int (nI k2)), (0, .ref (q 8)), (1, .int bs)]) (fun z => plc dd ds dt bs z2 k2 ≤ z ∧ z ≤ k2) k2 (⟨hpl, Nat.le_refl _⟩) (show va_P (dC, dI) vwCl [(q 8, .inr (1, [.ref (q 9), .ref (q 10), .ref (q 11), .ref (q 12), .ref (q 13), .int (nI dn)])), (q 9, .inl (cI, 190, .inl dc)), (q 10, .inl (cJ, 190, .inr (.inl dd))), (q 11, .inl (cJ, 190, .inr (.inl ds))), (q 12, .inl (cJ, 190, .inr (.inl dt))), (q 13, .inl (cI, 190, .inl (shu z2 k2 k2)))] H from by rw [shu_0]; exact hP) (show va_D A [(q 8, .inr (1, [.ref (q 9), .ref (q 10), .ref (q 11), .ref (q 12), .ref (q 13), .int (nI dn)])), (q 9, .inl (cI, 190, .inl dc)), (q 10, .inl (cJ, 190, .inr (.inl dd))), (q 11, .inl (cJ, 190, .inr (.inl ds))), (q 12, .inl (cJ, 190, .inr (.inl dt))), (q 13, .inl (cI, 190, .inl (shu z2 k2 k2)))] from by rw [shu_0]; exact hD) hS (lv_sub hl [0, 1, 2, 3, 4] rfl) (fun z20 hI20 H locs ls hP hD hS hl ih20 => ?_)
      have hP : va_P (dC, dI) vwCl [(q 8, .inr (1, [.ref (q 9), .ref (q 10), .ref (q 11), .ref (q 12), .ref (q 13), .int (nI dn)])), (q 9, .inl (cI, 190, .inl dc)), (q 10, .inl (cJ, 190, .inr (.inl dd))), (q 11, .inl (cJ, 190, .inr (.inl ds))), (q 12, .inl (cJ, 190, .inr (.inl dt))), (q 13, .inl (cI, 190, .inl (shu z2 z20 k2)))] H := hP
      have hD : va_D A [(q 8, .inr (1, [.ref (q 9), .ref (q 10), .ref (q 11), .ref (q 12), .ref (q 13), .int (nI dn)])), (q 9, .inl (cI, 190, .inl dc)), (q 10, .inl (cJ, 190, .inr (.inl dd))), (q 11, .inl (cJ, 190, .inr (.inl ds))), (q 12, .inl (cJ, 190, .inr (.inl dt))), (q 13, .inl (cI, 190, .inl (shu z2 z20 k2)))] := hD
      have hb1 := hI20.1
      have hb2 := hI20.2
      refine lv_iload hx hb dX1_rank_20 (lv_at hl 0 rfl) ?_
      refine lv_iload_n hx hb dX1_rank_22 rfl (lv_at hl 1 rfl) ?_
      refine rn_le (tgt := 48) hx hb z20 (plc dd ds dt bs z2 k2) rfl rfl (by omega) (by omega) dX1_rank_23 (by decide) (fun h23 => ?_) (fun h23 => ?_)
      · have he : z20 = plc dd ds dt bs z2 k2 := by omega
        subst he
        refine lv_aload_n hx hb dX1_rank_48 rfl (lv_at hl 3 rfl) ?_
        refine va_get (D := (dC, dI)) (ci := 1) (v := .ref (q 13)) (C := RX1) (T := TX1) (N := 6) hx hb hts (by decide +kernel) hown hK hP 0 rfl rfl 4 (by decide) (hts (.fieldLink RX1 25 "AchromatDesk$DoubletRanking" "order" "[I") (by decide +kernel)) (fun _ h9 => h9) rfl dX1_rank_49 ?_
        refine lv_iload_n hx hb dX1_rank_52 rfl (lv_at hl 1 rfl) ?_
        refine lv_iload_n hx hb dX1_rank_53 rfl (lv_at hl 2 rfl) ?_
        refine ar_iast hx hb hK hP hD hS 5 0 rfl rfl (plc dd ds dt bs z2 k2) rfl (by omega) (by omega) dX1_rank_54 (fun H locs hP hD hS => ?_)
        have hP : va_P (dC, dI) vwCl [(q 8, .inr (1, [.ref (q 9), .ref (q 10), .ref (q 11), .ref (q 12), .ref (q 13), .int (nI dn)])), (q 9, .inl (cI, 190, .inl dc)), (q 10, .inl (cJ, 190, .inr (.inl dd))), (q 11, .inl (cJ, 190, .inr (.inl ds))), (q 12, .inl (cJ, 190, .inr (.inl dt))), (q 13, .inl (cI, 190, .inl (upd (shu z2 (plc dd ds dt bs z2 k2) k2) (plc dd ds dt bs z2 k2) (nI k2))))] H := hP
        have hD : va_D A [(q 8, .inr (1, [.ref (q 9), .ref (q 10), .ref (q 11), .ref (q 12), .ref (q 13), .int (nI dn)])), (q 9, .inl (cI, 190, .inl dc)), (q 10, .inl (cJ, 190, .inr (.inl dd))), (q 11, .inl (cJ, 190, .inr (.inl ds))), (q 12, .inl (cJ, 190, .inr (.inl dt))), (q 13, .inl (cI, 190, .inl (upd (shu z2 (plc dd ds dt bs z2 k2) k2) (plc dd ds dt bs z2 k2) (nI k2))))] := hD
        refine lv_iinc (v := nI (k2 + 1)) (lv' := [(2, .int (nI (k2 + 1))), (4, .int (nI (plc dd ds dt bs z2 k2))), (3, .int (nI (plc dd ds dt bs z2 k2))), (0, .ref (q 8)), (1, .int bs)]) hx hb dX1_rank_55 hl (k := 2) rfl (by first | rfl | exact nI_add _ _) (by decide) rfl (fun ls hl => ?_)
        refine lv_goto (tgt := 2) hx hb dX1_rank_58 (by decide) ?_
        exact ih2 (rkf dd ds dt bs k2 z2) (rfl) (trivial) H locs ls (show va_P (dC, dI) vwCl [(q 8, .inr (1, [.ref (q 9), .ref (q 10), .ref (q 11), .ref (q 12), .ref (q 13), .int (nI dn)])), (q 9, .inl (cI, 190, .inl dc)), (q 10, .inl (cJ, 190, .inr (.inl dd))), (q 11, .inl (cJ, 190, .inr (.inl ds))), (q 12, .inl (cJ, 190, .inr (.inl dt))), (q 13, .inl (cI, 190, .inl (rkf dd ds dt bs k2 z2)))] H from hP) (show va_D A [(q 8, .inr (1, [.ref (q 9), .ref (q 10), .ref (q 11), .ref (q 12), .ref (q 13), .int (nI dn)])), (q 9, .inl (cI, 190, .inl dc)), (q 10, .inl (cJ, 190, .inr (.inl dd))), (q 11, .inl (cJ, 190, .inr (.inl ds))), (q 12, .inl (cJ, 190, .inr (.inl dt))), (q 13, .inl (cI, 190, .inl (rkf dd ds dt bs k2 z2)))] from hD) hS (lv_sub hl [0, 3, 4] rfl)
      · refine lv_aload_n hx hb dX1_rank_26 rfl (lv_at hl 3 rfl) ?_
        refine va_get (D := (dC, dI)) (ci := 1) (v := .ref (q 13)) (C := RX1) (T := TX1) (N := 6) hx hb hts (by decide +kernel) hown hK hP 0 rfl rfl 4 (by decide) (hts (.fieldLink RX1 25 "AchromatDesk$DoubletRanking" "order" "[I") (by decide +kernel)) (fun _ h9 => h9) rfl dX1_rank_27 ?_
        refine lv_iload hx hb dX1_rank_30 (lv_at hl 0 rfl) ?_
        refine lv_aload_n hx hb dX1_rank_32 rfl (lv_at hl 3 rfl) ?_
        refine va_get (D := (dC, dI)) (ci := 1) (v := .ref (q 13)) (C := RX1) (T := TX1) (N := 6) hx hb hts (by decide +kernel) hown hK hP 0 rfl rfl 4 (by decide) (hts (.fieldLink RX1 25 "AchromatDesk$DoubletRanking" "order" "[I") (by decide +kernel)) (fun _ h9 => h9) rfl dX1_rank_33 ?_
        refine lv_iload hx hb dX1_rank_36 (lv_at hl 0 rfl) ?_
        refine lv_iconst (v := 1) hx hb dX1_rank_38 (by decide) ?_
        refine lv_isub hx hb dX1_rank_39 ?_
        refine rw_topi (show ((nI z20) - 1 : Int32) = (nI (z20 - 1) : Int32) from pk_sub (b := 1) (by omega)) ?_
        refine ar_iald hx hb hK hP 5 0 rfl rfl (z20 - 1) rfl (by omega) (by omega) dX1_rank_40 ?_
        refine rw_topi (show ((shu z2 z20 k2) (z20 - 1) : Int32) = (z2 (z20 - 1) : Int32) from shu_at _ (by omega)) ?_
        refine ar_iast hx hb hK hP hD hS 5 0 rfl rfl z20 rfl (by omega) (by omega) dX1_rank_41 (fun H locs hP hD hS => ?_)
        have hP : va_P (dC, dI) vwCl [(q 8, .inr (1, [.ref (q 9), .ref (q 10), .ref (q 11), .ref (q 12), .ref (q 13), .int (nI dn)])), (q 9, .inl (cI, 190, .inl dc)), (q 10, .inl (cJ, 190, .inr (.inl dd))), (q 11, .inl (cJ, 190, .inr (.inl ds))), (q 12, .inl (cJ, 190, .inr (.inl dt))), (q 13, .inl (cI, 190, .inl (upd (shu z2 z20 k2) z20 (z2 (z20 - 1)))))] H := hP
        have hD : va_D A [(q 8, .inr (1, [.ref (q 9), .ref (q 10), .ref (q 11), .ref (q 12), .ref (q 13), .int (nI dn)])), (q 9, .inl (cI, 190, .inl dc)), (q 10, .inl (cJ, 190, .inr (.inl dd))), (q 11, .inl (cJ, 190, .inr (.inl ds))), (q 12, .inl (cJ, 190, .inr (.inl dt))), (q 13, .inl (cI, 190, .inl (upd (shu z2 z20 k2) z20 (z2 (z20 - 1)))))] := hD
        refine lv_iinc (v := nI (z20 - 1)) (lv' := [(4, .int (nI (z20 - 1))), (3, .int (nI (plc dd ds dt bs z2 k2))), (2, .int (nI k2)), (0, .ref (q 8)), (1, .int bs)]) hx hb dX1_rank_42 hl (k := 0) rfl (by rw [show Int32.ofInt (-1) = -1 from by decide]; exact sb_m1 (by omega)) (by decide) rfl (fun ls hl => ?_)
        refine lv_goto (tgt := 20) hx hb dX1_rank_45 (by decide) ?_
        exact ih20 (z20 - 1) (⟨by omega, by omega⟩) (by first | omega | (dsimp only; omega)) H locs ls (show va_P (dC, dI) vwCl [(q 8, .inr (1, [.ref (q 9), .ref (q 10), .ref (q 11), .ref (q 12), .ref (q 13), .int (nI dn)])), (q 9, .inl (cI, 190, .inl dc)), (q 10, .inl (cJ, 190, .inr (.inl dd))), (q 11, .inl (cJ, 190, .inr (.inl ds))), (q 12, .inl (cJ, 190, .inr (.inl dt))), (q 13, .inl (cI, 190, .inl (shu z2 (z20 - 1) k2)))] H from by rw [← shu_s z2 (by omega) hI20.2]; exact hP) (show va_D A [(q 8, .inr (1, [.ref (q 9), .ref (q 10), .ref (q 11), .ref (q 12), .ref (q 13), .int (nI dn)])), (q 9, .inl (cI, 190, .inl dc)), (q 10, .inl (cJ, 190, .inr (.inl dd))), (q 11, .inl (cJ, 190, .inr (.inl ds))), (q 12, .inl (cJ, 190, .inr (.inl dt))), (q 13, .inl (cI, 190, .inl (shu z2 (z20 - 1) k2)))] from by rw [← shu_s z2 (by omega) hI20.2]; exact hD) hS (lv_sub hl [0, 1, 2, 3, 4] rfl)
  · have hP : va_P (dC, dI) vwCl [(q 8, .inr (1, [.ref (q 9), .ref (q 10), .ref (q 11), .ref (q 12), .ref (q 13), .int (nI dn)])), (q 9, .inl (cI, 190, .inl dc)), (q 10, .inl (cJ, 190, .inr (.inl dd))), (q 11, .inl (cJ, 190, .inr (.inl ds))), (q 12, .inl (cJ, 190, .inr (.inl dt))), (q 13, .inl (cI, 190, .inl z2))] H := hP
    have hD : va_D A [(q 8, .inr (1, [.ref (q 9), .ref (q 10), .ref (q 11), .ref (q 12), .ref (q 13), .int (nI dn)])), (q 9, .inl (cI, 190, .inl dc)), (q 10, .inl (cJ, 190, .inr (.inl dd))), (q 11, .inl (cJ, 190, .inr (.inl ds))), (q 12, .inl (cJ, 190, .inr (.inl dt))), (q 13, .inl (cI, 190, .inl z2))] := hD
    have hz2b : z2 = rkO dd ds dt bs od dn := hz2
    rw [hz2b] at hP hD
    refine lv_iload_n hx hb dX1_rank_2 rfl (lv_at hl 0 rfl) ?_
    refine lv_aload_n hx hb dX1_rank_3 rfl (lv_at hl 1 rfl) ?_
    refine va_get (D := (dC, dI)) (ci := 1) (v := .int (nI dn)) (C := RX1) (T := TX1) (N := 6) hx hb hts (by decide +kernel) hown hK hP 0 rfl rfl 5 (by decide) (hts (.fieldLink RX1 28 "AchromatDesk$DoubletRanking" "count" "I") (by decide +kernel)) (fun _ h9 => h9) rfl dX1_rank_4 ?_
    refine rn_ge (tgt := 61) hx hb dn dn rfl rfl (by omega) (by omega) dX1_rank_7 (by decide) (fun h7 => ?_) (fun h7 => ?_)
    · exact W.vret hx hb hr (fun t ht hW => ⟨⟨(), rfl, trivial, by rw [ht]; exact hP, by rw [hAe]; exact hD⟩, hS.F ht⟩) hS.2.2 dX1_rank_61
    · exfalso; omega

set_option maxHeartbeats 4000000 in
set_option maxRecDepth 100000 in
theorem c_X1_codeAt (l : Launch) (dC : Nat → ClassId) (dI : Nat → Nat → Nat) (cI cJ : ClassId) (q : Nat → Nat) (dn : Nat) (dc : Nat → Int32) (dd ds dt : Nat → Int64) (od : Nat → Int32) (a b : Nat) (ha : a < 190) (hb0 : b < 190) (he : od a = nI b) : Met l yX1_codeAt wsX1_codeAt ({ frames := 0, cells := 0, slots := 0, locals := 0 }) (va_Pc [.ref (q 8), .int (nI a)] (RO (dC, dI) (tyK cI cJ) ([(q 8, .inr (1, [.ref (q 9), .ref (q 10), .ref (q 11), .ref (q 12), .ref (q 13), .int (nI dn)])), (q 9, .inl (cI, 190, .inl dc)), (q 10, .inl (cJ, 190, .inr (.inl dd))), (q 11, .inl (cJ, 190, .inr (.inl ds))), (q 12, .inl (cJ, 190, .inr (.inl dt))), (q 13, .inl (cI, 190, .inl od))]))) (vp_Si (fun r => r = dc b)) 0 0 (fun _ => False) := by
  refine Met.ofW (cc := cX1_codeAt) (maxL := 2) (ret := (some .int)) (by decide) rfl ?_
  intro p e s m args below meth c s₁ B hml hv
  obtain ⟨rfl, hP, hK, hN⟩ := hv
  have hx := B.exec
  have hb := B.bytes
  have hr := B.returns
  have hts := atoms_spec (ws := wsX1_codeAt) B.pre
  have hown : s.vm.findClass RX1 = some m.cls := findClass_of_methodNamed B.named
  have hlocks := B.notSynchronized
  have hP : va_P (dC, dI) vwCl [(q 8, .inr (1, [.ref (q 9), .ref (q 10), .ref (q 11), .ref (q 12), .ref (q 13), .int (nI dn)])), (q 9, .inl (cI, 190, .inl dc)), (q 10, .inl (cJ, 190, .inr (.inl dd))), (q 11, .inl (cJ, 190, .inr (.inl ds))), (q 12, .inl (cJ, 190, .inr (.inl dt))), (q 13, .inl (cI, 190, .inl od))] s.heap := hP
  have hl := lv_entry ([.ref (q 8), .int (nI a)]) (n := 2) (Nat.le_of_ble_eq_true rfl)
  rw [lg_entry_eq]
  generalize (lg_sl ([.ref (q 8), .int (nI a)]) ++ List.replicate (2 - (lg_sl ([.ref (q 8), .int (nI a)])).length) Slot.unset).toArray = ls at hl ⊢
  have hl : lv_has ls 2 [(0, .ref (q 8)), (1, .int (nI a))] := hl
  refine lv_aload_n hx hb dX1_codeAt_0 rfl (lv_at hl 0 rfl) ?_
  refine va_get (D := (dC, dI)) (ci := 1) (v := .ref (q 9)) (C := RX1) (T := TX1) (N := 6) hx hb hts (by decide +kernel) hown hK hP 0 rfl rfl 0 (by decide) (hts (.fieldLink RX1 9 "AchromatDesk$DoubletRanking" "codes" "[I") (by decide +kernel)) (fun _ h9 => h9) rfl dX1_codeAt_1 ?_
  refine lv_aload_n hx hb dX1_codeAt_4 rfl (lv_at hl 0 rfl) ?_
  refine va_get (D := (dC, dI)) (ci := 1) (v := .ref (q 13)) (C := RX1) (T := TX1) (N := 6) hx hb hts (by decide +kernel) hown hK hP 0 rfl rfl 4 (by decide) (hts (.fieldLink RX1 25 "AchromatDesk$DoubletRanking" "order" "[I") (by decide +kernel)) (fun _ h9 => h9) rfl dX1_codeAt_5 ?_
  refine lv_iload_n hx hb dX1_codeAt_8 rfl (lv_at hl 1 rfl) ?_
  refine ar_iald hx hb hK hP 5 0 rfl rfl a rfl (by omega) (by omega) dX1_codeAt_9 ?_
  refine rw_topi (show (od a : Int32) = (nI b : Int32) from he) ?_
  refine ar_iald hx hb hK hP 1 0 rfl rfl b rfl (by omega) (by omega) dX1_codeAt_10 ?_
  exact W.iret hx hb hr (fun t ht hW => ⟨_, rfl, rfl, ht⟩) (fun _ h => absurd h List.not_mem_nil) dX1_codeAt_11
