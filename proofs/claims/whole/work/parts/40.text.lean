set_option maxHeartbeats 4000000 in
set_option maxRecDepth 100000 in
theorem c_X2_isAllowedBehindName (l : Launch) (o : Nat) (ho : o < 2 ^ 31) (ch : Int32) : Met l yX2_isAllowedBehindName wsX2_isAllowedBehindName ({ frames := 1, cells := 0, slots := 0, locals := 20 }) (va_Pc [.int (nI o), .int ch] (fun _ => True)) (vp_Si (fun r => r = if allw o ch then 1 else 0)) 0 0 (fun _ => False) := by
  refine Met.ofW (cc := cX2_isAllowedBehindName) (maxL := 3) (ret := (some .boolean)) (by decide) rfl ?_
  intro p e s m args below meth c s₁ B hml hv
  obtain ⟨rfl, -⟩ := hv
  have hx := B.exec
  have hb := B.bytes
  have hr := B.returns
  have hts := atoms_spec (ws := wsX2_isAllowedBehindName) B.pre
  have hown : s.vm.findClass RX2 = some m.cls := findClass_of_methodNamed B.named
  have hlocks := B.notSynchronized
  have hl := lv_entry ([.int (nI o), .int ch]) (n := 3) (Nat.le_of_ble_eq_true rfl)
  rw [lg_entry_eq]
  generalize (lg_sl ([.int (nI o), .int ch]) ++ List.replicate (3 - (lg_sl ([.int (nI o), .int ch])).length) Slot.unset).toArray = ls at hl ⊢
  have hl : lv_has ls 3 [(0, .int (nI o)), (1, .int ch)] := hl
  refine lv_iload_n hx hb dX2_isAllowedBehindName_0 rfl (lv_at hl 0 rfl) ?_
  refine lv_bipush (v := 21) hx hb dX2_isAllowedBehindName_1 (by decide) ?_
  refine rn_lt (tgt := 8) hx hb o 21 rfl rfl (by omega) (by omega) dX2_isAllowedBehindName_3 (by decide) (fun h3 => ?_) (fun h3 => ?_)
  · refine lv_iload_n hx hb dX2_isAllowedBehindName_8 rfl (lv_at hl 0 rfl) ?_
    refine lv_bipush (v := 7) hx hb dX2_isAllowedBehindName_9 (by decide) ?_
    refine lv_irem hx hb dX2_isAllowedBehindName_11 (by decide) ?_
    refine rw_topi (pk_rem (a := o) (d := 7) (by omega) (by omega) (by omega)) ?_
    refine lv_istore_n (lv' := [(2, .int (nI (o % 7))), (0, .int (nI o)), (1, .int ch)]) hx hb dX2_isAllowedBehindName_12 rfl hl (by decide) rfl (fun ls hl => ?_)
    refine lv_iload_n hx hb dX2_isAllowedBehindName_13 rfl (lv_at hl 0 rfl) ?_
    refine rz_ne (tgt := 29) hx hb (o % 7) rfl (by omega) dX2_isAllowedBehindName_14 (by decide) (fun h14 => ?_) (fun h14 => ?_)
    · refine lv_iload_n hx hb dX2_isAllowedBehindName_29 rfl (lv_at hl 2 rfl) ?_
      refine stSi (As := [.int ch]) (rest := []) (c_X2_isDigit l ch) ⟨hx, hb, hml, hown, hts⟩ (va_cwS 1 hts gX2_isAllowedBehindName_X2_isDigit rfl rfl rfl (by decide +kernel) ⟨Nat.le_of_ble_eq_true rfl, Nat.le_of_ble_eq_true rfl⟩) rfl hl.1 rfl (Nat.le_of_ble_eq_true rfl) dX2_isAllowedBehindName_30 ⟨Nat.zero_le _, Nat.zero_le _⟩ (fun r hr0 => ?_)
      subst hr0
      refine rb_eq (tgt := 51) hx hb dX2_isAllowedBehindName_33 (by decide) (fun h33 => ?_) (fun h33 => ?_)
      · refine lv_iconst (v := 0) hx hb dX2_isAllowedBehindName_51 (by decide) ?_
        exact W.zret hx hb hr (by decide) (fun t ht hW => ⟨_, rfl, (if_neg (fun w => w.2.elim (fun w => h14 w.1) (fun w => h33 w.2.1))).symm, ht⟩) (fun _ h => absurd h List.not_mem_nil) dX2_isAllowedBehindName_52
      · refine lv_iload_n hx hb dX2_isAllowedBehindName_36 rfl (lv_at hl 0 rfl) ?_
        refine lv_iconst (v := 1) hx hb dX2_isAllowedBehindName_37 (by decide) ?_
        refine rn_gt (tgt := 47) hx hb (o % 7) 1 rfl rfl (by omega) (by omega) dX2_isAllowedBehindName_38 (by decide) (fun h38 => ?_) (fun h38 => ?_)
        · refine lv_iconst (v := 1) hx hb dX2_isAllowedBehindName_47 (by decide) ?_
          refine lv_goto (tgt := 52) hx hb dX2_isAllowedBehindName_48 (by decide) ?_
          exact W.zret hx hb hr (by decide) (fun t ht hW => ⟨_, rfl, (if_pos ⟨h3, Or.inr ⟨h14, h33, Or.inl h38⟩⟩).symm, ht⟩) (fun _ h => absurd h List.not_mem_nil) dX2_isAllowedBehindName_52
        · refine lv_iload_n hx hb dX2_isAllowedBehindName_41 rfl (lv_at hl 2 rfl) ?_
          refine lv_bipush (v := 48) hx hb dX2_isAllowedBehindName_42 (by decide) ?_
          refine lv_icmp_eq (tgt := 51) hx hb dX2_isAllowedBehindName_44 (by decide) (fun h44 => ?_) (fun h44 => ?_)
          · refine lv_iconst (v := 0) hx hb dX2_isAllowedBehindName_51 (by decide) ?_
            exact W.zret hx hb hr (by decide) (fun t ht hW => ⟨_, rfl, (if_neg (fun w => w.2.elim (fun w => h14 w.1) (fun w => w.2.2.elim (fun z => absurd z (by omega)) (fun z => z h44)))).symm, ht⟩) (fun _ h => absurd h List.not_mem_nil) dX2_isAllowedBehindName_52
          · refine lv_iconst (v := 1) hx hb dX2_isAllowedBehindName_47 (by decide) ?_
            refine lv_goto (tgt := 52) hx hb dX2_isAllowedBehindName_48 (by decide) ?_
            exact W.zret hx hb hr (by decide) (fun t ht hW => ⟨_, rfl, (if_pos ⟨h3, Or.inr ⟨h14, h33, Or.inr h44⟩⟩).symm, ht⟩) (fun _ h => absurd h List.not_mem_nil) dX2_isAllowedBehindName_52
    · refine lv_iload_n hx hb dX2_isAllowedBehindName_17 rfl (lv_at hl 2 rfl) ?_
      refine lv_bipush (v := 32) hx hb dX2_isAllowedBehindName_18 (by decide) ?_
      refine lv_icmp_ne (tgt := 27) hx hb dX2_isAllowedBehindName_20 (by decide) (fun h20 => ?_) (fun h20 => ?_)
      · refine lv_iconst (v := 0) hx hb dX2_isAllowedBehindName_27 (by decide) ?_
        exact W.zret hx hb hr (by decide) (fun t ht hW => ⟨_, rfl, (if_neg (fun w => w.2.elim (fun w => h20 w.2) (fun w => w.1 h14))).symm, ht⟩) (fun _ h => absurd h List.not_mem_nil) dX2_isAllowedBehindName_28
      · refine lv_iconst (v := 1) hx hb dX2_isAllowedBehindName_23 (by decide) ?_
        refine lv_goto (tgt := 28) hx hb dX2_isAllowedBehindName_24 (by decide) ?_
        exact W.zret hx hb hr (by decide) (fun t ht hW => ⟨_, rfl, (if_pos ⟨h3, Or.inl ⟨h14, h20⟩⟩).symm, ht⟩) (fun _ h => absurd h List.not_mem_nil) dX2_isAllowedBehindName_28
  · refine lv_iconst (v := 0) hx hb dX2_isAllowedBehindName_6 (by decide) ?_
    exact W.zret hx hb hr (by decide) (fun t ht hW => ⟨_, rfl, (if_neg (fun w => absurd w.1 (by omega))).symm, ht⟩) (fun _ h => absurd h List.not_mem_nil) dX2_isAllowedBehindName_7

set_option maxHeartbeats 4000000 in
set_option maxRecDepth 100000 in
theorem c_X2_codeAt (l : Launch) (dC : Nat → ClassId) (dI : Nat → Nat → Nat) (cI cJ : ClassId) (q : Nat → Nat) (bf : Nat → Int32) (ln : Nat) (hln : ln ≤ 28) (j : Nat) (hj : j < 2 ^ 31) : Met l yX2_codeAt wsX2_codeAt ({ frames := 0, cells := 0, slots := 0, locals := 0 }) (va_Pc [.ref (q 1), .int (nI j)] (RO (dC, dI) (tyK cI cJ) ([(q 1, .inr (2, [.ref (q 2), .int (nI ln)])), (q 2, .inl (cI, 28, .inl bf))]))) (vp_Si (fun r => r = cAt bf ln j)) 0 0 (fun _ => False) := by
  refine Met.ofW (cc := cX2_codeAt) (maxL := 2) (ret := (some .int)) (by decide) rfl ?_
  intro p e s m args below meth c s₁ B hml hv
  obtain ⟨rfl, hP, hK, hN⟩ := hv
  have hx := B.exec
  have hb := B.bytes
  have hr := B.returns
  have hts := atoms_spec (ws := wsX2_codeAt) B.pre
  have hown : s.vm.findClass RX2 = some m.cls := findClass_of_methodNamed B.named
  have hlocks := B.notSynchronized
  have hP : va_P (dC, dI) vwCl [(q 1, .inr (2, [.ref (q 2), .int (nI ln)])), (q 2, .inl (cI, 28, .inl bf))] s.heap := hP
  have hl := lv_entry ([.ref (q 1), .int (nI j)]) (n := 2) (Nat.le_of_ble_eq_true rfl)
  rw [lg_entry_eq]
  generalize (lg_sl ([.ref (q 1), .int (nI j)]) ++ List.replicate (2 - (lg_sl ([.ref (q 1), .int (nI j)])).length) Slot.unset).toArray = ls at hl ⊢
  have hl : lv_has ls 2 [(0, .ref (q 1)), (1, .int (nI j))] := hl
  refine lv_iload_n hx hb dX2_codeAt_0 rfl (lv_at hl 1 rfl) ?_
  refine lv_if_lt (tgt := 21) hx hb dX2_codeAt_1 (by decide) (fun h1 => ?_) (fun h1 => ?_)
  · exact absurd h1 (nI_pos (by omega))
  · refine lv_iload_n hx hb dX2_codeAt_4 rfl (lv_at hl 1 rfl) ?_
    refine lv_aload_n hx hb dX2_codeAt_5 rfl (lv_at hl 0 rfl) ?_
    refine va_get (D := (dC, dI)) (ci := 2) (v := .int (nI ln)) (C := RX2) (T := TX2) (N := 2) hx hb hts (by decide +kernel) hown hK hP 0 rfl rfl 1 (by decide) (hts (.fieldLink RX2 15 "AchromatDesk$GlassText" "length" "I") (by decide +kernel)) (fun _ h9 => h9) rfl dX2_codeAt_6 ?_
    refine rn_ge (tgt := 21) hx hb j ln rfl rfl (by omega) (by omega) dX2_codeAt_9 (by decide) (fun h9 => ?_) (fun h9 => ?_)
    · refine lv_iconst (v := 0) hx hb dX2_codeAt_21 (by decide) ?_
      exact W.iret hx hb hr (fun t ht hW => ⟨_, rfl, by first | rw [cAt, if_pos h9] | rw [cAt, if_neg (by omega)], ht⟩) (fun _ h => absurd h List.not_mem_nil) dX2_codeAt_22
    · refine lv_aload_n hx hb dX2_codeAt_12 rfl (lv_at hl 0 rfl) ?_
      refine va_get (D := (dC, dI)) (ci := 2) (v := .ref (q 2)) (C := RX2) (T := TX2) (N := 2) hx hb hts (by decide +kernel) hown hK hP 0 rfl rfl 0 (by decide) (hts (.fieldLink RX2 11 "AchromatDesk$GlassText" "codes" "[I") (by decide +kernel)) (fun _ h9 => h9) rfl dX2_codeAt_13 ?_
      refine lv_iload_n hx hb dX2_codeAt_16 rfl (lv_at hl 1 rfl) ?_
      refine ar_iald hx hb hK hP 1 0 rfl rfl j rfl (by omega) (by omega) dX2_codeAt_17 ?_
      refine lv_goto (tgt := 22) hx hb dX2_codeAt_18 (by decide) ?_
      exact W.iret hx hb hr (fun t ht hW => ⟨_, rfl, by first | rw [cAt, if_pos h9] | rw [cAt, if_neg (by omega)], ht⟩) (fun _ h => absurd h List.not_mem_nil) dX2_codeAt_22

set_option maxHeartbeats 4000000 in
set_option maxRecDepth 100000 in
theorem c_X2_nameLength (l : Launch) (dC : Nat → ClassId) (dI : Nat → Nat → Nat) (cI cJ : ClassId) (q : Nat → Nat) (bf : Nat → Int32) (ln : Nat) (hln : ln ≤ 28)  : Met l yX2_nameLength wsX2_nameLength ({ frames := 1, cells := 0, slots := 0, locals := 21 }) (va_Pc [.ref (q 1)] (RO (dC, dI) (tyK cI cJ) ([(q 1, .inr (2, [.ref (q 2), .int (nI ln)])), (q 2, .inl (cI, 28, .inl bf))]))) (vp_Si (fun r => r = nI (nmLen bf ln))) 0 0 (fun _ => False) := by
  refine Met.ofW (cc := cX2_nameLength) (maxL := 4) (ret := (some .int)) (by decide) rfl ?_
  intro p e s m args below meth c s₁ B hml hv
  obtain ⟨rfl, hP, hK, hN⟩ := hv
  have hx := B.exec
  have hb := B.bytes
  have hr := B.returns
  have hts := atoms_spec (ws := wsX2_nameLength) B.pre
  have hown : s.vm.findClass RX2 = some m.cls := findClass_of_methodNamed B.named
  have hlocks := B.notSynchronized
  have hP : va_P (dC, dI) vwCl [(q 1, .inr (2, [.ref (q 2), .int (nI ln)])), (q 2, .inl (cI, 28, .inl bf))] s.heap := hP
  have hl := lv_entry ([.ref (q 1)]) (n := 4) (Nat.le_of_ble_eq_true rfl)
  rw [lg_entry_eq]
  generalize (lg_sl ([.ref (q 1)]) ++ List.replicate (4 - (lg_sl ([.ref (q 1)])).length) Slot.unset).toArray = ls at hl ⊢
  have hl : lv_has ls 4 [(0, .ref (q 1))] := hl
  refine lv_aload_n hx hb dX2_nameLength_0 rfl (lv_at hl 0 rfl) ?_
  refine va_get (D := (dC, dI)) (ci := 2) (v := .int (nI ln)) (C := RX2) (T := TX2) (N := 2) hx hb hts (by decide +kernel) hown hK hP 0 rfl rfl 1 (by decide) (hts (.fieldLink RX2 15 "AchromatDesk$GlassText" "length" "I") (by decide +kernel)) (fun _ h9 => h9) rfl dX2_nameLength_1 ?_
  refine lv_bipush (v := 6) hx hb dX2_nameLength_4 (by decide) ?_
  refine va_mmin hx hb (by rw [hml]; exact hl.1.symm) hown (hts (.methodLink RX2 36 Lib.Math.min.name) (by decide +kernel)) (hts (.static Lib.Math.min.name) (by decide +kernel)) (hts (.initialized "java/lang/Math") (by decide +kernel)) (hts (.code Lib.Math.min.name Lib.Math.min.code 2 (some .int)) (by decide +kernel)) (Nat.le_of_ble_eq_true rfl) (Nat.le_of_ble_eq_true rfl) (Nat.zero_le _) (Nat.zero_le _) dX2_nameLength_6 ?_
  refine rw_topi (show (if 6 < nI ln then 6 else nI ln : Int32) = (nI (min ln 6) : Int32) from min6 (by omega)) ?_
  refine lv_istore_n (lv' := [(1, .int (nI (min ln 6))), (0, .ref (q 1))]) hx hb dX2_nameLength_9 rfl hl (by decide) rfl (fun ls hl => ?_)
  refine lv_iconst (v := 0) hx hb dX2_nameLength_10 (by decide) ?_
  refine lv_istore_n (lv' := [(2, .int 0), (1, .int (nI (min ln 6))), (0, .ref (q 1))]) hx hb dX2_nameLength_11 rfl hl (by decide) rfl (fun ls hl => ?_)
  refine rloopZ (nL := 4) 0 (min ln 6) (fun _ z => z) () (fun k12 z12 => [(2, .int (nI k12)), (1, .int (nI (min ln 6))), (0, .ref (q 1))]) (fun k _ => ∀ j, j < k → isNm bf j) (by omega) (fun j h => absurd h (Nat.not_lt_zero j)) (lv_sub hl [0, 1, 2] rfl) (fun k12 z12 hlo12 hk12 hz12 hI12 ls hl ih12 => ?_) (fun z12 hz12 hI12 ls hl => ?_)
  · refine lv_iload_n hx hb dX2_nameLength_12 rfl (lv_at hl 0 rfl) ?_
    refine lv_iload_n hx hb dX2_nameLength_13 rfl (lv_at hl 1 rfl) ?_
    refine rn_ge (tgt := 63) hx hb k12 (min ln 6) rfl rfl (by omega) (by omega) dX2_nameLength_14 (by decide) (fun h14 => ?_) (fun h14 => ?_)
    · exfalso; omega
    · refine rjoin (nL := 4) 50 [(2, .int (nI k12)), (1, .int (nI (min ln 6))), (0, .ref (q 1))] [.int (if isNm bf k12 then 1 else 0)] (fun ls hl => ?_) (fun hj50 => ?_)
      · refine lv_istore_n (lv' := [(3, .int (if isNm bf k12 then 1 else 0)), (2, .int (nI k12)), (1, .int (nI (min ln 6))), (0, .ref (q 1))]) hx hb dX2_nameLength_50 rfl hl (by decide) rfl (fun ls hl => ?_)
        refine lv_iload_n hx hb dX2_nameLength_51 rfl (lv_at hl 0 rfl) ?_
        refine rb_ne (tgt := 57) hx hb dX2_nameLength_52 (by decide) (fun h52 => ?_) (fun h52 => ?_)
        · refine lv_iinc (v := nI (k12 + 1)) (lv' := [(2, .int (nI (k12 + 1))), (3, .int (if isNm bf k12 then 1 else 0)), (1, .int (nI (min ln 6))), (0, .ref (q 1))]) hx hb dX2_nameLength_57 hl (k := 1) rfl (by first | rfl | exact nI_add _ _) (by decide) rfl (fun ls hl => ?_)
          refine lv_goto (tgt := 12) hx hb dX2_nameLength_60 (by decide) ?_
          exact ih12 () (rfl) (fun j h => (Nat.lt_succ_iff_lt_or_eq.mp h).elim (hI12 j) (fun e => e ▸ h52)) ls (lv_sub hl [0, 2, 3] rfl)
        · refine lv_iload_n hx hb dX2_nameLength_55 rfl (lv_at hl 1 rfl) ?_
          exact W.iret hx hb hr (fun t ht hW => ⟨_, rfl, congrArg nI (first_eq (by omega) (fun j hj h => h (hI12 j hj)) (fun _ => h52)).symm, ht⟩) (fun _ h => absurd h List.not_mem_nil) dX2_nameLength_56
      · refine lv_aload_n hx hb dX2_nameLength_17 rfl (lv_at hl 2 rfl) ?_
        refine va_get (D := (dC, dI)) (ci := 2) (v := .ref (q 2)) (C := RX2) (T := TX2) (N := 2) hx hb hts (by decide +kernel) hown hK hP 0 rfl rfl 0 (by decide) (hts (.fieldLink RX2 11 "AchromatDesk$GlassText" "codes" "[I") (by decide +kernel)) (fun _ h9 => h9) rfl dX2_nameLength_18 ?_
        refine lv_iload_n hx hb dX2_nameLength_21 rfl (lv_at hl 0 rfl) ?_
        refine ar_iald hx hb hK hP 1 0 rfl rfl k12 rfl (by omega) (by omega) dX2_nameLength_22 ?_
        refine stSi (As := [.int (bf k12)]) (rest := []) (c_X2_isLetter l (bf k12)) ⟨hx, hb, hml, hown, hts⟩ (va_cwS 1 hts gX2_nameLength_X2_isLetter rfl rfl rfl (by decide +kernel) ⟨Nat.le_of_ble_eq_true rfl, Nat.le_of_ble_eq_true rfl⟩) rfl hl.1 rfl (Nat.le_of_ble_eq_true rfl) dX2_nameLength_23 ⟨Nat.zero_le _, Nat.zero_le _⟩ (fun r hr0 => ?_)
        subst hr0
        refine rb_ne (tgt := 45) hx hb dX2_nameLength_26 (by decide) (fun h26 => ?_) (fun h26 => ?_)
        · refine lv_iconst (v := 1) hx hb dX2_nameLength_45 (by decide) ?_
          refine lv_goto (tgt := 50) hx hb dX2_nameLength_46 (by decide) ?_
          refine rw_topi (show (1 : Int32) = (if isNm bf k12 then 1 else 0 : Int32) from (if_pos (Or.inl h26)).symm) ?_
          exact hj50 ls (lv_sub hl [0, 1, 2] rfl)
        · refine lv_iload_n hx hb dX2_nameLength_29 rfl (lv_at hl 0 rfl) ?_
          refine rz_le (tgt := 49) hx hb k12 rfl (by omega) dX2_nameLength_30 (by decide) (fun h30 => ?_) (fun h30 => ?_)
          · refine lv_iconst (v := 0) hx hb dX2_nameLength_49 (by decide) ?_
            refine rw_topi (show (0 : Int32) = (if isNm bf k12 then 1 else 0 : Int32) from (if_neg (fun w => w.elim h26 (fun w => absurd w.1 (by omega)))).symm) ?_
            exact hj50 ls (lv_sub hl [0, 1, 2] rfl)
          · refine lv_aload_n hx hb dX2_nameLength_33 rfl (lv_at hl 2 rfl) ?_
            refine va_get (D := (dC, dI)) (ci := 2) (v := .ref (q 2)) (C := RX2) (T := TX2) (N := 2) hx hb hts (by decide +kernel) hown hK hP 0 rfl rfl 0 (by decide) (hts (.fieldLink RX2 11 "AchromatDesk$GlassText" "codes" "[I") (by decide +kernel)) (fun _ h9 => h9) rfl dX2_nameLength_34 ?_
            refine lv_iload_n hx hb dX2_nameLength_37 rfl (lv_at hl 0 rfl) ?_
            refine ar_iald hx hb hK hP 1 0 rfl rfl k12 rfl (by omega) (by omega) dX2_nameLength_38 ?_
            refine stSi (As := [.int (bf k12)]) (rest := []) (c_X2_isDigit l (bf k12)) ⟨hx, hb, hml, hown, hts⟩ (va_cwS 1 hts gX2_nameLength_X2_isDigit rfl rfl rfl (by decide +kernel) ⟨Nat.le_of_ble_eq_true rfl, Nat.le_of_ble_eq_true rfl⟩) rfl hl.1 rfl (Nat.le_of_ble_eq_true rfl) dX2_nameLength_39 ⟨Nat.zero_le _, Nat.zero_le _⟩ (fun r hr0 => ?_)
            subst hr0
            refine rb_eq (tgt := 49) hx hb dX2_nameLength_42 (by decide) (fun h42 => ?_) (fun h42 => ?_)
            · refine lv_iconst (v := 0) hx hb dX2_nameLength_49 (by decide) ?_
              refine rw_topi (show (0 : Int32) = (if isNm bf k12 then 1 else 0 : Int32) from (if_neg (fun w => w.elim h26 (fun w => h42 w.2))).symm) ?_
              exact hj50 ls (lv_sub hl [0, 1, 2] rfl)
            · refine lv_iconst (v := 1) hx hb dX2_nameLength_45 (by decide) ?_
              refine lv_goto (tgt := 50) hx hb dX2_nameLength_46 (by decide) ?_
              refine rw_topi (show (1 : Int32) = (if isNm bf k12 then 1 else 0 : Int32) from (if_pos (Or.inr ⟨h30, h42⟩)).symm) ?_
              exact hj50 ls (lv_sub hl [0, 1, 2] rfl)
  · refine lv_iload_n hx hb dX2_nameLength_12 rfl (lv_at hl 0 rfl) ?_
    refine lv_iload_n hx hb dX2_nameLength_13 rfl (lv_at hl 1 rfl) ?_
    refine rn_ge (tgt := 63) hx hb (min ln 6) (min ln 6) rfl rfl (by omega) (by omega) dX2_nameLength_14 (by decide) (fun h14 => ?_) (fun h14 => ?_)
    · refine lv_iload_n hx hb dX2_nameLength_63 rfl (lv_at hl 1 rfl) ?_
      exact W.iret hx hb hr (fun t ht hW => ⟨_, rfl, congrArg nI (first_eq (Nat.le_refl _) (fun j hj h => h (hI12 j hj)) (fun h => absurd h (Nat.lt_irrefl _))).symm, ht⟩) (fun _ h => absurd h List.not_mem_nil) dX2_nameLength_64
    · exfalso; omega

set_option maxHeartbeats 4000000 in
set_option maxRecDepth 100000 in
theorem c_X2_firstFault (l : Launch) (dC : Nat → ClassId) (dI : Nat → Nat → Nat) (cI cJ : ClassId) (q : Nat → Nat) (bf : Nat → Int32) (ln : Nat) (hln : ln ≤ 28)  : Met l yX2_firstFault wsX2_firstFault ({ frames := 2, cells := 0, slots := 0, locals := 44 }) (va_Pc [.ref (q 1)] (RO (dC, dI) (tyK cI cJ) ([(q 1, .inr (2, [.ref (q 2), .int (nI ln)])), (q 2, .inl (cI, 28, .inl bf))]))) (vp_Si (fun r => r = nI (faultA bf ln))) 0 0 (fun _ => False) := by
  refine Met.ofW (cc := cX2_firstFault) (maxL := 3) (ret := (some .int)) (by decide) rfl ?_
  intro p e s m args below meth c s₁ B hml hv
  obtain ⟨rfl, hP, hK, hN⟩ := hv
  have hx := B.exec
  have hb := B.bytes
  have hr := B.returns
  have hts := atoms_spec (ws := wsX2_firstFault) B.pre
  have hown : s.vm.findClass RX2 = some m.cls := findClass_of_methodNamed B.named
  have hlocks := B.notSynchronized
  have hP : va_P (dC, dI) vwCl [(q 1, .inr (2, [.ref (q 2), .int (nI ln)])), (q 2, .inl (cI, 28, .inl bf))] s.heap := hP
  have hl := lv_entry ([.ref (q 1)]) (n := 3) (Nat.le_of_ble_eq_true rfl)
  rw [lg_entry_eq]
  generalize (lg_sl ([.ref (q 1)]) ++ List.replicate (3 - (lg_sl ([.ref (q 1)])).length) Slot.unset).toArray = ls at hl ⊢
  have hl : lv_has ls 3 [(0, .ref (q 1))] := hl
  refine lv_aload_n hx hb dX2_firstFault_0 rfl (lv_at hl 0 rfl) ?_
  refine roVi (As := []) (rest := []) (c_X2_nameLength l dC dI cI cJ q bf ln hln ) ⟨hx, hb, hml, hown, hts⟩ (cwV 0 hts gX2_firstFault_X2_nameLength rfl rfl rfl (by decide +kernel) ⟨Nat.le_of_ble_eq_true rfl, Nat.le_of_ble_eq_true rfl⟩) (hP.sub [0, 1] rfl) hK hN (ci := 2) rfl rfl rfl hl.1 rfl (Nat.le_of_ble_eq_true rfl) dX2_firstFault_1 ⟨Nat.zero_le _, Nat.zero_le _⟩ (fun r hr0 => ?_)
  subst hr0
  refine lv_istore_n (lv' := [(1, .int (nI (nmLen bf ln))), (0, .ref (q 1))]) hx hb dX2_firstFault_4 rfl hl (by decide) rfl (fun ls hl => ?_)
  have hLe := nmLen_le bf ln
  refine lv_iload_n hx hb dX2_firstFault_5 rfl (lv_at hl 0 rfl) ?_
  refine rz_ne (tgt := 11) hx hb (nmLen bf ln) rfl (by omega) dX2_firstFault_6 (by decide) (fun h6 => ?_) (fun h6 => ?_)
  · refine lv_iload_n hx hb dX2_firstFault_11 rfl (lv_at hl 0 rfl) ?_
    refine lv_istore_n (lv' := [(2, .int (nI (nmLen bf ln))), (1, .int (nI (nmLen bf ln))), (0, .ref (q 1))]) hx hb dX2_firstFault_12 rfl hl (by decide) rfl (fun ls hl => ?_)
    refine rloopZ (nL := 3) (nmLen bf ln) ln (fun _ z => z) () (fun k13 z13 => [(2, .int (nI k13)), (1, .int (nI (nmLen bf ln))), (0, .ref (q 1))]) (fun k _ => ∀ j, nmLen bf ln ≤ j → j < k → allw (j - nmLen bf ln) (bf j)) (by omega) (fun j h1 h2 => absurd h2 (by omega)) (lv_sub hl [0, 1, 2] rfl) (fun k13 z13 hlo13 hk13 hz13 hI13 ls hl ih13 => ?_) (fun z13 hz13 hI13 ls hl => ?_)
    · refine lv_iload_n hx hb dX2_firstFault_13 rfl (lv_at hl 0 rfl) ?_
      refine lv_aload_n hx hb dX2_firstFault_14 rfl (lv_at hl 2 rfl) ?_
      refine va_get (D := (dC, dI)) (ci := 2) (v := .int (nI ln)) (C := RX2) (T := TX2) (N := 2) hx hb hts (by decide +kernel) hown hK hP 0 rfl rfl 1 (by decide) (hts (.fieldLink RX2 15 "AchromatDesk$GlassText" "length" "I") (by decide +kernel)) (fun _ h9 => h9) rfl dX2_firstFault_15 ?_
      refine rn_ge (tgt := 44) hx hb k13 ln rfl rfl (by omega) (by omega) dX2_firstFault_18 (by decide) (fun h18 => ?_) (fun h18 => ?_)
      · exfalso; omega
      · refine lv_iload_n hx hb dX2_firstFault_21 rfl (lv_at hl 0 rfl) ?_
        refine lv_iload_n hx hb dX2_firstFault_22 rfl (lv_at hl 1 rfl) ?_
        refine lv_isub hx hb dX2_firstFault_23 ?_
        refine rw_topi (show ((nI k13) - (nI (nmLen bf ln)) : Int32) = (nI (k13 - nmLen bf ln) : Int32) from pk_sub (by omega)) ?_
        refine lv_aload_n hx hb dX2_firstFault_24 rfl (lv_at hl 2 rfl) ?_
        refine va_get (D := (dC, dI)) (ci := 2) (v := .ref (q 2)) (C := RX2) (T := TX2) (N := 2) hx hb hts (by decide +kernel) hown hK hP 0 rfl rfl 0 (by decide) (hts (.fieldLink RX2 11 "AchromatDesk$GlassText" "codes" "[I") (by decide +kernel)) (fun _ h9 => h9) rfl dX2_firstFault_25 ?_
        refine lv_iload_n hx hb dX2_firstFault_28 rfl (lv_at hl 0 rfl) ?_
        refine ar_iald hx hb hK hP 1 0 rfl rfl k13 rfl (by omega) (by omega) dX2_firstFault_29 ?_
        refine stSi (As := [.int (nI (k13 - nmLen bf ln)), .int (bf k13)]) (rest := []) (c_X2_isAllowedBehindName l (k13 - nmLen bf ln) (by omega) (bf k13)) ⟨hx, hb, hml, hown, hts⟩ (va_cwS 2 hts gX2_firstFault_X2_isAllowedBehindName rfl rfl rfl (by decide +kernel) ⟨Nat.le_of_ble_eq_true rfl, Nat.le_of_ble_eq_true rfl⟩) rfl hl.1 rfl (Nat.le_of_ble_eq_true rfl) dX2_firstFault_30 ⟨Nat.zero_le _, Nat.zero_le _⟩ (fun r hr0 => ?_)
        subst hr0
        refine rb_ne (tgt := 38) hx hb dX2_firstFault_33 (by decide) (fun h33 => ?_) (fun h33 => ?_)
        · refine lv_iinc (v := nI (k13 + 1)) (lv' := [(2, .int (nI (k13 + 1))), (1, .int (nI (nmLen bf ln))), (0, .ref (q 1))]) hx hb dX2_firstFault_38 hl (k := 0) rfl (by first | rfl | exact nI_add _ _) (by decide) rfl (fun ls hl => ?_)
          refine lv_goto (tgt := 13) hx hb dX2_firstFault_41 (by decide) ?_
          exact ih13 () (rfl) (fun j h1 h => (Nat.lt_succ_iff_lt_or_eq.mp h).elim (hI13 j h1) (fun e => e ▸ h33)) ls (lv_sub hl [0, 1, 2] rfl)
        · refine lv_iload_n hx hb dX2_firstFault_36 rfl (lv_at hl 0 rfl) ?_
          exact W.iret hx hb hr (fun t ht hW => ⟨_, rfl, congrArg nI (by rw [faultA, if_neg h6]; exact (first_eq (by omega) (fun j hj h => h.2 (hI13 j h.1 hj)) (fun _ => ⟨hlo13, h33⟩)).symm), ht⟩) (fun _ h => absurd h List.not_mem_nil) dX2_firstFault_37
    · refine lv_iload_n hx hb dX2_firstFault_13 rfl (lv_at hl 0 rfl) ?_
      refine lv_aload_n hx hb dX2_firstFault_14 rfl (lv_at hl 2 rfl) ?_
      refine va_get (D := (dC, dI)) (ci := 2) (v := .int (nI ln)) (C := RX2) (T := TX2) (N := 2) hx hb hts (by decide +kernel) hown hK hP 0 rfl rfl 1 (by decide) (hts (.fieldLink RX2 15 "AchromatDesk$GlassText" "length" "I") (by decide +kernel)) (fun _ h9 => h9) rfl dX2_firstFault_15 ?_
      refine rn_ge (tgt := 44) hx hb ln ln rfl rfl (by omega) (by omega) dX2_firstFault_18 (by decide) (fun h18 => ?_) (fun h18 => ?_)
      · refine lv_aload_n hx hb dX2_firstFault_44 rfl (lv_at hl 2 rfl) ?_
        refine va_get (D := (dC, dI)) (ci := 2) (v := .int (nI ln)) (C := RX2) (T := TX2) (N := 2) hx hb hts (by decide +kernel) hown hK hP 0 rfl rfl 1 (by decide) (hts (.fieldLink RX2 15 "AchromatDesk$GlassText" "length" "I") (by decide +kernel)) (fun _ h9 => h9) rfl dX2_firstFault_45 ?_
        exact W.iret hx hb hr (fun t ht hW => ⟨_, rfl, congrArg nI (by rw [faultA, if_neg h6]; exact (first_eq (Nat.le_refl _) (fun j hj h => h.2 (hI13 j h.1 hj)) (fun h => absurd h (Nat.lt_irrefl _))).symm), ht⟩) (fun _ h => absurd h List.not_mem_nil) dX2_firstFault_48
      · exfalso; omega
  · refine lv_iconst (v := 0) hx hb dX2_firstFault_9 (by decide) ?_
    exact W.iret hx hb hr (fun t ht hW => ⟨_, rfl, by rw [faultA, if_pos h6]; rfl, ht⟩) (fun _ h => absurd h List.not_mem_nil) dX2_firstFault_10

set_option maxHeartbeats 4000000 in
set_option maxRecDepth 100000 in
theorem c_X2_isComplete (l : Launch) (dC : Nat → ClassId) (dI : Nat → Nat → Nat) (cI cJ : ClassId) (q : Nat → Nat) (bf : Nat → Int32) (ln : Nat) (hln : ln ≤ 28)  : Met l yX2_isComplete wsX2_isComplete ({ frames := 3, cells := 0, slots := 0, locals := 66 }) (va_Pc [.ref (q 1)] (RO (dC, dI) (tyK cI cJ) ([(q 1, .inr (2, [.ref (q 2), .int (nI ln)])), (q 2, .inl (cI, 28, .inl bf))]))) (vp_Si (fun r => r = if isWh bf ln then 1 else 0)) 0 0 (fun _ => False) := by
  refine Met.ofW (cc := cX2_isComplete) (maxL := 2) (ret := (some .boolean)) (by decide) rfl ?_
  intro p e s m args below meth c s₁ B hml hv
  obtain ⟨rfl, hP, hK, hN⟩ := hv
  have hx := B.exec
  have hb := B.bytes
  have hr := B.returns
  have hts := atoms_spec (ws := wsX2_isComplete) B.pre
  have hown : s.vm.findClass RX2 = some m.cls := findClass_of_methodNamed B.named
  have hlocks := B.notSynchronized
  have hP : va_P (dC, dI) vwCl [(q 1, .inr (2, [.ref (q 2), .int (nI ln)])), (q 2, .inl (cI, 28, .inl bf))] s.heap := hP
  have hl := lv_entry ([.ref (q 1)]) (n := 2) (Nat.le_of_ble_eq_true rfl)
  rw [lg_entry_eq]
  generalize (lg_sl ([.ref (q 1)]) ++ List.replicate (2 - (lg_sl ([.ref (q 1)])).length) Slot.unset).toArray = ls at hl ⊢
  have hl : lv_has ls 2 [(0, .ref (q 1))] := hl
  refine lv_aload_n hx hb dX2_isComplete_0 rfl (lv_at hl 0 rfl) ?_
  refine roVi (As := []) (rest := []) (c_X2_nameLength l dC dI cI cJ q bf ln hln ) ⟨hx, hb, hml, hown, hts⟩ (cwV 0 hts gX2_isComplete_X2_nameLength rfl rfl rfl (by decide +kernel) ⟨Nat.le_of_ble_eq_true rfl, Nat.le_of_ble_eq_true rfl⟩) (hP.sub [0, 1] rfl) hK hN (ci := 2) rfl rfl rfl hl.1 rfl (Nat.le_of_ble_eq_true rfl) dX2_isComplete_1 ⟨Nat.zero_le _, Nat.zero_le _⟩ (fun r hr0 => ?_)
  subst hr0
  refine lv_istore_n (lv' := [(1, .int (nI (nmLen bf ln))), (0, .ref (q 1))]) hx hb dX2_isComplete_4 rfl hl (by decide) rfl (fun ls hl => ?_)
  have hLe := nmLen_le bf ln
  refine lv_iload_n hx hb dX2_isComplete_5 rfl (lv_at hl 0 rfl) ?_
  refine rz_le (tgt := 35) hx hb (nmLen bf ln) rfl (by omega) dX2_isComplete_6 (by decide) (fun h6 => ?_) (fun h6 => ?_)
  · refine lv_iconst (v := 0) hx hb dX2_isComplete_35 (by decide) ?_
    exact W.zret hx hb hr (by decide) (fun t ht hW => ⟨_, rfl, (if_neg (fun w => absurd w.1 (by omega))).symm, ht⟩) (fun _ h => absurd h List.not_mem_nil) dX2_isComplete_36
  · refine lv_aload_n hx hb dX2_isComplete_9 rfl (lv_at hl 1 rfl) ?_
    refine va_get (D := (dC, dI)) (ci := 2) (v := .int (nI ln)) (C := RX2) (T := TX2) (N := 2) hx hb hts (by decide +kernel) hown hK hP 0 rfl rfl 1 (by decide) (hts (.fieldLink RX2 15 "AchromatDesk$GlassText" "length" "I") (by decide +kernel)) (fun _ h9 => h9) rfl dX2_isComplete_10 ?_
    refine lv_iload_n hx hb dX2_isComplete_13 rfl (lv_at hl 0 rfl) ?_
    refine lv_bipush (v := 21) hx hb dX2_isComplete_14 (by decide) ?_
    refine lv_iadd hx hb dX2_isComplete_16 ?_
    refine rw_topi (nI_add (nmLen bf ln) 21) ?_
    refine rn_ne (tgt := 35) hx hb ln ((nmLen bf ln) + 21) rfl rfl (by omega) (by omega) dX2_isComplete_17 (by decide) (fun h17 => ?_) (fun h17 => ?_)
    · refine lv_iconst (v := 0) hx hb dX2_isComplete_35 (by decide) ?_
      exact W.zret hx hb hr (by decide) (fun t ht hW => ⟨_, rfl, (if_neg (fun w => h17 w.2.1)).symm, ht⟩) (fun _ h => absurd h List.not_mem_nil) dX2_isComplete_36
    · refine lv_aload_n hx hb dX2_isComplete_20 rfl (lv_at hl 1 rfl) ?_
      refine roVi (As := []) (rest := []) (c_X2_firstFault l dC dI cI cJ q bf ln hln ) ⟨hx, hb, hml, hown, hts⟩ (cwV 0 hts gX2_isComplete_X2_firstFault rfl rfl rfl (by decide +kernel) ⟨Nat.le_of_ble_eq_true rfl, Nat.le_of_ble_eq_true rfl⟩) (hP.sub [0, 1] rfl) hK hN (ci := 2) rfl rfl rfl hl.1 rfl (Nat.le_of_ble_eq_true rfl) dX2_isComplete_21 ⟨Nat.zero_le _, Nat.zero_le _⟩ (fun r hr0 => ?_)
      subst hr0
      refine lv_aload_n hx hb dX2_isComplete_24 rfl (lv_at hl 1 rfl) ?_
      have hFe := faultA_le bf ln
      refine va_get (D := (dC, dI)) (ci := 2) (v := .int (nI ln)) (C := RX2) (T := TX2) (N := 2) hx hb hts (by decide +kernel) hown hK hP 0 rfl rfl 1 (by decide) (hts (.fieldLink RX2 15 "AchromatDesk$GlassText" "length" "I") (by decide +kernel)) (fun _ h9 => h9) rfl dX2_isComplete_25 ?_
      refine rn_ne (tgt := 35) hx hb (faultA bf ln) ln rfl rfl (by omega) (by omega) dX2_isComplete_28 (by decide) (fun h28 => ?_) (fun h28 => ?_)
      · refine lv_iconst (v := 0) hx hb dX2_isComplete_35 (by decide) ?_
        exact W.zret hx hb hr (by decide) (fun t ht hW => ⟨_, rfl, (if_neg (fun w => h28 w.2.2)).symm, ht⟩) (fun _ h => absurd h List.not_mem_nil) dX2_isComplete_36
      · refine lv_iconst (v := 1) hx hb dX2_isComplete_31 (by decide) ?_
        refine lv_goto (tgt := 36) hx hb dX2_isComplete_32 (by decide) ?_
        exact W.zret hx hb hr (by decide) (fun t ht hW => ⟨_, rfl, (if_pos ⟨h6, h17, h28⟩).symm, ht⟩) (fun _ h => absurd h List.not_mem_nil) dX2_isComplete_36

set_option maxHeartbeats 4000000 in
set_option maxRecDepth 100000 in
theorem c_X2_number (l : Launch) (dC : Nat → ClassId) (dI : Nat → Nat → Nat) (cI cJ : ClassId) (q : Nat → Nat) (bf : Nat → Int32) (ln : Nat) (hln : ln ≤ 28) (pl : Nat) (hpl : pl < 3) : Met l yX2_number wsX2_number ({ frames := 2, cells := 0, slots := 0, locals := 44 }) (va_Pc [.ref (q 1), .int (nI pl)] (RO (dC, dI) (tyK cI cJ) ([(q 1, .inr (2, [.ref (q 2), .int (nI ln)])), (q 2, .inl (cI, 28, .inl bf))]))) (vp_Si (fun r => r = numA bf ln pl)) 0 0 (fun _ => False) := by
  refine Met.ofW (cc := cX2_number) (maxL := 5) (ret := (some .int)) (by decide) rfl ?_
  intro p e s m args below meth c s₁ B hml hv
  obtain ⟨rfl, hP, hK, hN⟩ := hv
  have hx := B.exec
  have hb := B.bytes
  have hr := B.returns
  have hts := atoms_spec (ws := wsX2_number) B.pre
  have hown : s.vm.findClass RX2 = some m.cls := findClass_of_methodNamed B.named
  have hlocks := B.notSynchronized
  have hP : va_P (dC, dI) vwCl [(q 1, .inr (2, [.ref (q 2), .int (nI ln)])), (q 2, .inl (cI, 28, .inl bf))] s.heap := hP
  have hl := lv_entry ([.ref (q 1), .int (nI pl)]) (n := 5) (Nat.le_of_ble_eq_true rfl)
  rw [lg_entry_eq]
  generalize (lg_sl ([.ref (q 1), .int (nI pl)]) ++ List.replicate (5 - (lg_sl ([.ref (q 1), .int (nI pl)])).length) Slot.unset).toArray = ls at hl ⊢
  have hl : lv_has ls 5 [(0, .ref (q 1)), (1, .int (nI pl))] := hl
  refine lv_aload_n hx hb dX2_number_0 rfl (lv_at hl 0 rfl) ?_
  refine roVi (As := []) (rest := []) (c_X2_nameLength l dC dI cI cJ q bf ln hln ) ⟨hx, hb, hml, hown, hts⟩ (cwV 0 hts gX2_number_X2_nameLength rfl rfl rfl (by decide +kernel) ⟨Nat.le_of_ble_eq_true rfl, Nat.le_of_ble_eq_true rfl⟩) (hP.sub [0, 1] rfl) hK hN (ci := 2) rfl rfl rfl hl.1 rfl (Nat.le_of_ble_eq_true rfl) dX2_number_1 ⟨Nat.zero_le _, Nat.zero_le _⟩ (fun r hr0 => ?_)
  subst hr0
  refine lv_iload_n hx hb dX2_number_4 rfl (lv_at hl 1 rfl) ?_
  have hLe := nmLen_le bf ln
  refine lv_bipush (v := 7) hx hb dX2_number_5 (by decide) ?_
  refine lv_imul hx hb dX2_number_7 ?_
  refine rw_topi (pk_mul pl 7) ?_
  refine lv_iadd hx hb dX2_number_8 ?_
  refine rw_topi (nI_add (nmLen bf ln) (pl * 7)) ?_
  refine lv_iconst (v := 1) hx hb dX2_number_9 (by decide) ?_
  refine lv_iadd hx hb dX2_number_10 ?_
  refine rw_topi (nI_add ((nmLen bf ln) + (pl * 7)) 1) ?_
  refine lv_istore_n (lv' := [(2, .int (nI (((nmLen bf ln) + (pl * 7)) + 1))), (0, .ref (q 1)), (1, .int (nI pl))]) hx hb dX2_number_11 rfl hl (by decide) rfl (fun ls hl => ?_)
  refine lv_iconst (v := 0) hx hb dX2_number_12 (by decide) ?_
  refine lv_istore_n (lv' := [(3, .int 0), (2, .int (nI (((nmLen bf ln) + (pl * 7)) + 1))), (0, .ref (q 1)), (1, .int (nI pl))]) hx hb dX2_number_13 rfl hl (by decide) rfl (fun ls hl => ?_)
  refine lv_iload_n hx hb dX2_number_14 rfl (lv_at hl 1 rfl) ?_
  refine lv_istore (lv' := [(4, .int (nI (((nmLen bf ln) + (pl * 7)) + 1))), (3, .int 0), (2, .int (nI (((nmLen bf ln) + (pl * 7)) + 1))), (0, .ref (q 1)), (1, .int (nI pl))]) hx hb dX2_number_15 hl (by decide) rfl (fun ls hl => ?_)
  refine rloopZ (nL := 5) (nmLen bf ln + pl * 7 + 1) (nmLen bf ln + pl * 7 + 1 + 6) (fun a z => 10 * z + cAt bf ln a - 48) 0 (fun k17 z17 => [(4, .int (nI k17)), (3, .int z17), (2, .int (nI (((nmLen bf ln) + (pl * 7)) + 1))), (0, .ref (q 1)), (1, .int (nI pl))]) (fun _ _ => True) (by omega) (trivial) (lv_sub hl [0, 1, 2, 3, 4] rfl) (fun k17 z17 hlo17 hk17 hz17 hI17 ls hl ih17 => ?_) (fun z17 hz17 hI17 ls hl => ?_)
  · refine lv_iload hx hb dX2_number_17 (lv_at hl 0 rfl) ?_
    refine lv_iload_n hx hb dX2_number_19 rfl (lv_at hl 2 rfl) ?_
    refine lv_bipush (v := 6) hx hb dX2_number_20 (by decide) ?_
    refine lv_iadd hx hb dX2_number_22 ?_
    refine rw_topi (nI_add (((nmLen bf ln) + (pl * 7)) + 1) 6) ?_
    refine rn_ge (tgt := 47) hx hb k17 ((((nmLen bf ln) + (pl * 7)) + 1) + 6) rfl rfl (by omega) (by omega) dX2_number_23 (by decide) (fun h23 => ?_) (fun h23 => ?_)
    · exfalso; omega
    · refine lv_bipush (v := 10) hx hb dX2_number_26 (by decide) ?_
      refine lv_iload_n hx hb dX2_number_28 rfl (lv_at hl 1 rfl) ?_
      refine lv_imul hx hb dX2_number_29 ?_
      refine lv_aload_n hx hb dX2_number_30 rfl (lv_at hl 3 rfl) ?_
      refine lv_iload hx hb dX2_number_31 (lv_at hl 0 rfl) ?_
      refine roVi (As := [.int (nI k17)]) (rest := [.int (10 * z17)]) (c_X2_codeAt l dC dI cI cJ q bf ln hln k17 (by omega)) ⟨hx, hb, hml, hown, hts⟩ (cwV 1 hts gX2_number_X2_codeAt rfl rfl rfl (by decide +kernel) ⟨Nat.le_of_ble_eq_true rfl, Nat.le_of_ble_eq_true rfl⟩) (hP.sub [0, 1] rfl) hK hN (ci := 2) rfl rfl rfl hl.1 rfl (Nat.le_of_ble_eq_true rfl) dX2_number_33 ⟨Nat.zero_le _, Nat.zero_le _⟩ (fun r hr0 => ?_)
      subst hr0
      refine lv_iadd hx hb dX2_number_36 ?_
      refine lv_bipush (v := 48) hx hb dX2_number_37 (by decide) ?_
      refine lv_isub hx hb dX2_number_39 ?_
      refine lv_istore_n (lv' := [(3, .int (((10 * z17) + (cAt bf ln k17)) - 48)), (4, .int (nI k17)), (2, .int (nI (((nmLen bf ln) + (pl * 7)) + 1))), (0, .ref (q 1)), (1, .int (nI pl))]) hx hb dX2_number_40 rfl hl (by decide) rfl (fun ls hl => ?_)
      refine lv_iinc (v := nI (k17 + 1)) (lv' := [(4, .int (nI (k17 + 1))), (3, .int (((10 * z17) + (cAt bf ln k17)) - 48)), (2, .int (nI (((nmLen bf ln) + (pl * 7)) + 1))), (0, .ref (q 1)), (1, .int (nI pl))]) hx hb dX2_number_41 hl (k := 1) rfl (by first | rfl | exact nI_add _ _) (by decide) rfl (fun ls hl => ?_)
      refine lv_goto (tgt := 17) hx hb dX2_number_44 (by decide) ?_
      exact ih17 (((10 * z17) + (cAt bf ln k17)) - 48) (rfl) (trivial) ls (lv_sub hl [0, 1, 2, 3, 4] rfl)
  · refine lv_iload hx hb dX2_number_17 (lv_at hl 0 rfl) ?_
    refine lv_iload_n hx hb dX2_number_19 rfl (lv_at hl 2 rfl) ?_
    refine lv_bipush (v := 6) hx hb dX2_number_20 (by decide) ?_
    refine lv_iadd hx hb dX2_number_22 ?_
    refine rw_topi (nI_add (((nmLen bf ln) + (pl * 7)) + 1) 6) ?_
    refine rn_ge (tgt := 47) hx hb (nmLen bf ln + pl * 7 + 1 + 6) ((((nmLen bf ln) + (pl * 7)) + 1) + 6) rfl rfl (by omega) (by omega) dX2_number_23 (by decide) (fun h23 => ?_) (fun h23 => ?_)
    · refine lv_iload_n hx hb dX2_number_47 rfl (lv_at hl 1 rfl) ?_
      exact W.iret hx hb hr (fun t ht hW => ⟨_, rfl, by rw [hz17]; rfl, ht⟩) (fun _ h => absurd h List.not_mem_nil) dX2_number_48
    · exfalso; omega

set_option maxHeartbeats 4000000 in
set_option maxRecDepth 100000 in
theorem c_X2_nameKey (l : Launch) (dC : Nat → ClassId) (dI : Nat → Nat → Nat) (cI cJ : ClassId) (q : Nat → Nat) (bf : Nat → Int32) (ln : Nat) (hln : ln ≤ 28)  : Met l yX2_nameKey wsX2_nameKey ({ frames := 2, cells := 0, slots := 0, locals := 44 }) (va_Pc [.ref (q 1)] (RO (dC, dI) (tyK cI cJ) ([(q 1, .inr (2, [.ref (q 2), .int (nI ln)])), (q 2, .inl (cI, 28, .inl bf))]))) (vp_Sl (fun r => r = keyA bf ln)) 0 0 (fun _ => False) := by
  refine Met.ofW (cc := cX2_nameKey) (maxL := 5) (ret := (some .long)) (by decide) rfl ?_
  intro p e s m args below meth c s₁ B hml hv
  obtain ⟨rfl, hP, hK, hN⟩ := hv
  have hx := B.exec
  have hb := B.bytes
  have hr := B.returns
  have hts := atoms_spec (ws := wsX2_nameKey) B.pre
  have hown : s.vm.findClass RX2 = some m.cls := findClass_of_methodNamed B.named
  have hlocks := B.notSynchronized
  have hP : va_P (dC, dI) vwCl [(q 1, .inr (2, [.ref (q 2), .int (nI ln)])), (q 2, .inl (cI, 28, .inl bf))] s.heap := hP
  have hl := lv_entry ([.ref (q 1)]) (n := 5) (Nat.le_of_ble_eq_true rfl)
  rw [lg_entry_eq]
  generalize (lg_sl ([.ref (q 1)]) ++ List.replicate (5 - (lg_sl ([.ref (q 1)])).length) Slot.unset).toArray = ls at hl ⊢
  have hl : lv_has ls 5 [(0, .ref (q 1))] := hl
  refine lv_aload_n hx hb dX2_nameKey_0 rfl (lv_at hl 0 rfl) ?_
  refine roVi (As := []) (rest := []) (c_X2_nameLength l dC dI cI cJ q bf ln hln ) ⟨hx, hb, hml, hown, hts⟩ (cwV 0 hts gX2_nameKey_X2_nameLength rfl rfl rfl (by decide +kernel) ⟨Nat.le_of_ble_eq_true rfl, Nat.le_of_ble_eq_true rfl⟩) (hP.sub [0, 1] rfl) hK hN (ci := 2) rfl rfl rfl hl.1 rfl (Nat.le_of_ble_eq_true rfl) dX2_nameKey_1 ⟨Nat.zero_le _, Nat.zero_le _⟩ (fun r hr0 => ?_)
  subst hr0
  refine lv_istore_n (lv' := [(1, .int (nI (nmLen bf ln))), (0, .ref (q 1))]) hx hb dX2_nameKey_4 rfl hl (by decide) rfl (fun ls hl => ?_)
  have hLe := nmLen_le bf ln
  refine lv_lconst (v := 0) hx hb dX2_nameKey_5 (by decide) ?_
  refine lv_lstore_n (lv' := [(2, .long 0), (1, .int (nI (nmLen bf ln))), (0, .ref (q 1))]) hx hb dX2_nameKey_6 rfl hl (by decide) rfl (fun ls hl => ?_)
  refine lv_iconst (v := 0) hx hb dX2_nameKey_7 (by decide) ?_
  refine lv_istore (lv' := [(4, .int 0), (2, .long 0), (1, .int (nI (nmLen bf ln))), (0, .ref (q 1))]) hx hb dX2_nameKey_8 hl (by decide) rfl (fun ls hl => ?_)
  refine rloopZ (nL := 5) 0 6 (fun a z => 128 * z + (if a < nmLen bf ln then bf a else 0).toInt64) 0 (fun k10 z10 => [(4, .int (nI k10)), (2, .long z10), (1, .int (nI (nmLen bf ln))), (0, .ref (q 1))]) (fun _ _ => True) (by omega) (trivial) (lv_sub hl [0, 1, 2, 3] rfl) (fun k10 z10 hlo10 hk10 hz10 hI10 ls hl ih10 => ?_) (fun z10 hz10 hI10 ls hl => ?_)
  · refine lv_iload hx hb dX2_nameKey_10 (lv_at hl 0 rfl) ?_
    refine lv_bipush (v := 6) hx hb dX2_nameKey_12 (by decide) ?_
    refine rn_ge (tgt := 48) hx hb k10 6 rfl rfl (by omega) (by omega) dX2_nameKey_14 (by decide) (fun h14 => ?_) (fun h14 => ?_)
    · exfalso; omega
    · refine lv_ldc2 (v := 128) hx hb hown (hts (.constantLong RX2 34 (128)) (by decide +kernel)) dX2_nameKey_17 ?_
      refine lv_lload_n hx hb dX2_nameKey_20 rfl (lv_at hl 1 rfl) ?_
      refine lv_lmul hx hb dX2_nameKey_21 ?_
      refine rjoin (nL := 5) 39 [(4, .int (nI k10)), (2, .long z10), (1, .int (nI (nmLen bf ln))), (0, .ref (q 1))] [.int (if k10 < nmLen bf ln then bf k10 else 0), .long (128 * z10)] (fun ls hl => ?_) (fun hj39 => ?_)
      · refine lv_i2l (v := (if k10 < nmLen bf ln then bf k10 else 0).toInt64) hx hb dX2_nameKey_39 rfl ?_
        refine lv_ladd hx hb dX2_nameKey_40 ?_
        refine lv_lstore_n (lv' := [(2, .long ((128 * z10) + ((if k10 < nmLen bf ln then bf k10 else 0).toInt64))), (4, .int (nI k10)), (1, .int (nI (nmLen bf ln))), (0, .ref (q 1))]) hx hb dX2_nameKey_41 rfl hl (by decide) rfl (fun ls hl => ?_)
        refine lv_iinc (v := nI (k10 + 1)) (lv' := [(4, .int (nI (k10 + 1))), (2, .long ((128 * z10) + ((if k10 < nmLen bf ln then bf k10 else 0).toInt64))), (1, .int (nI (nmLen bf ln))), (0, .ref (q 1))]) hx hb dX2_nameKey_42 hl (k := 1) rfl (by first | rfl | exact nI_add _ _) (by decide) rfl (fun ls hl => ?_)
        refine lv_goto (tgt := 10) hx hb dX2_nameKey_45 (by decide) ?_
        exact ih10 ((128 * z10) + ((if k10 < nmLen bf ln then bf k10 else 0).toInt64)) (rfl) (trivial) ls (lv_sub hl [0, 1, 2, 3] rfl)
      · refine lv_iload hx hb dX2_nameKey_22 (lv_at hl 0 rfl) ?_
        refine lv_iload_n hx hb dX2_nameKey_24 rfl (lv_at hl 2 rfl) ?_
        refine rn_ge (tgt := 38) hx hb k10 (nmLen bf ln) rfl rfl (by omega) (by omega) dX2_nameKey_25 (by decide) (fun h25 => ?_) (fun h25 => ?_)
        · refine lv_iconst (v := 0) hx hb dX2_nameKey_38 (by decide) ?_
          refine rw_topi (show (0 : Int32) = (if k10 < nmLen bf ln then bf k10 else 0 : Int32) from by first | rw [if_pos h25] | rw [if_neg (by omega)]) ?_
          exact hj39 ls (lv_sub hl [0, 1, 2, 3] rfl)
        · refine lv_aload_n hx hb dX2_nameKey_28 rfl (lv_at hl 3 rfl) ?_
          refine va_get (D := (dC, dI)) (ci := 2) (v := .ref (q 2)) (C := RX2) (T := TX2) (N := 2) hx hb hts (by decide +kernel) hown hK hP 0 rfl rfl 0 (by decide) (hts (.fieldLink RX2 11 "AchromatDesk$GlassText" "codes" "[I") (by decide +kernel)) (fun _ h9 => h9) rfl dX2_nameKey_29 ?_
          refine lv_iload hx hb dX2_nameKey_32 (lv_at hl 0 rfl) ?_
          refine ar_iald hx hb hK hP 1 0 rfl rfl k10 rfl (by omega) (by omega) dX2_nameKey_34 ?_
          refine lv_goto (tgt := 39) hx hb dX2_nameKey_35 (by decide) ?_
          refine rw_topi (show (bf k10 : Int32) = (if k10 < nmLen bf ln then bf k10 else 0 : Int32) from by first | rw [if_pos h25] | rw [if_neg (by omega)]) ?_
          exact hj39 ls (lv_sub hl [0, 1, 2, 3] rfl)
  · refine lv_iload hx hb dX2_nameKey_10 (lv_at hl 0 rfl) ?_
    refine lv_bipush (v := 6) hx hb dX2_nameKey_12 (by decide) ?_
    refine rn_ge (tgt := 48) hx hb 6 6 rfl rfl (by omega) (by omega) dX2_nameKey_14 (by decide) (fun h14 => ?_) (fun h14 => ?_)
    · refine lv_lload_n hx hb dX2_nameKey_48 rfl (lv_at hl 1 rfl) ?_
      exact W.lret hx hb hr (fun t ht hW => ⟨_, rfl, by rw [hz10]; rfl, ht⟩) (fun _ h => absurd h List.not_mem_nil) dX2_nameKey_49
    · exfalso; omega
