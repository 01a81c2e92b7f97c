set_option maxHeartbeats 4000000 in
set_option maxRecDepth 100000 in
theorem c_X6_doublets (l : Launch) (dC : Nat → ClassId) (dI : Nat → Nat → Nat) (cI cJ : ClassId) (a : Nat → Nat) (bf : Nat → Int32) (ln : Nat) (hln : ln ≤ 28) (G : GL) (n : Nat) (hn : n ≤ 20) (lg lp : Nat → Int32) (k : Nat) (hk : k ≤ 8) (rd : Nat → Int32) (np : Nat) (hp : np ≤ 16) (M : MS) (hG : gOK G n) (hL : lOK lg k n) (hR : rOK rd np)  : Met l yX6_doublets wsX6_doublets ({ frames := 3, cells := 0, slots := 0, locals := 65 }) (va_Pc [.ref (a 0)] (RO (dC, dI) (tyK cI cJ) ([(a 0, .inr (6, [.int (nI ln), .ref (a 1), .int (nI n), .ref (a 2), .ref (a 3), .int (nI k), .ref (a 4), .ref (a 5), .int (nI np), .ref (a 6), .long M.1, .ref (a 7), .int M.2.1, .int M.2.2.1, .int M.2.2.2.1, .int M.2.2.2.2.1, .ref (a 8), .long M.2.2.2.2.2.1])), (a 1, .inl (cI, 28, .inl bf)), (a 2, .inl (cJ, 20, .inr (.inl (gK G)))), (a 3, .inl (cI, 60, .inl (ilv G))), (a 4, .inl (cI, 8, .inl lg)), (a 5, .inl (cI, 8, .inl lp)), (a 6, .inl (cI, 16, .inl rd)), (a 7, .inl (cI, 3, .inl M.2.2.2.2.2.2.1)), (a 8, .inl (cJ, 3, .inr (.inl M.2.2.2.2.2.2.2)))]))) (vp_Sl (fun r => r = lN (cntD G n))) 0 0 (fun _ => False) := by
  refine Met.ofW (cc := cX6_doublets) (maxL := 5) (ret := (some .long)) (by decide) rfl ?_
  intro p e s m args below meth c s₁ B hml hv
  obtain ⟨rfl, hP, hK, hN⟩ := hv
  have hx := B.exec
  have hb := B.bytes
  have hr := B.returns
  have hts := atoms_spec (ws := wsX6_doublets) B.pre
  have hown : s.vm.findClass RX6 = some m.cls := findClass_of_methodNamed B.named
  have hlocks := B.notSynchronized
  have hP : va_P (dC, dI) vwCl [(a 0, .inr (6, [.int (nI ln), .ref (a 1), .int (nI n), .ref (a 2), .ref (a 3), .int (nI k), .ref (a 4), .ref (a 5), .int (nI np), .ref (a 6), .long M.1, .ref (a 7), .int M.2.1, .int M.2.2.1, .int M.2.2.2.1, .int M.2.2.2.2.1, .ref (a 8), .long M.2.2.2.2.2.1])), (a 1, .inl (cI, 28, .inl bf)), (a 2, .inl (cJ, 20, .inr (.inl (gK G)))), (a 3, .inl (cI, 60, .inl (ilv G))), (a 4, .inl (cI, 8, .inl lg)), (a 5, .inl (cI, 8, .inl lp)), (a 6, .inl (cI, 16, .inl rd)), (a 7, .inl (cI, 3, .inl M.2.2.2.2.2.2.1)), (a 8, .inl (cJ, 3, .inr (.inl M.2.2.2.2.2.2.2)))] s.heap := hP
  have hl := lv_entry ([.ref (a 0)]) (n := 5) (Nat.le_of_ble_eq_true rfl)
  rw [lg_entry_eq]
  generalize (lg_sl ([.ref (a 0)]) ++ List.replicate (5 - (lg_sl ([.ref (a 0)])).length) Slot.unset).toArray = ls at hl ⊢
  have hl : lv_has ls 5 [(0, .ref (a 0))] := hl
  refine lv_lconst (v := 0) hx hb dX6_doublets_0 (by decide) ?_
  refine lv_lstore_n (lv' := [(1, .long 0), (0, .ref (a 0))]) hx hb dX6_doublets_1 rfl hl (by decide) rfl (fun ls hl => ?_)
  refine lv_iconst (v := 0) hx hb dX6_doublets_2 (by decide) ?_
  refine lv_istore_n (lv' := [(3, .int 0), (1, .long 0), (0, .ref (a 0))]) hx hb dX6_doublets_3 rfl hl (by decide) rfl (fun ls hl => ?_)
  refine rloopZ (nL := 5) 0 n (fun i z => cnt2 G n i z) 0 (fun k4 z4 => [(3, .int (nI k4)), (1, .long (lN z4)), (0, .ref (a 0))]) (fun _ _ => True) (by omega) (trivial) (lv_sub hl [0, 1, 2] rfl) (fun k4 z4 hlo4 hk4 hz4 hI4 ls hl ih4 => ?_) (fun z4 hz4 hI4 ls hl => ?_)
  · refine lv_iload_n hx hb dX6_doublets_4 rfl (lv_at hl 0 rfl) ?_
    refine lv_aload_n hx hb dX6_doublets_5 rfl (lv_at hl 2 rfl) ?_
    refine va_get (D := (dC, dI)) (ci := 6) (v := .int (nI n)) (C := RX6) (T := TX6) (N := 18) hx hb hts (by decide +kernel) hown hK hP 0 rfl rfl 2 (by decide) (hts (.fieldLink RX6 35 "AchromatDeskModel" "glasses" "I") (by decide +kernel)) (fun _ h9 => h9) rfl dX6_doublets_6 ?_
    refine rn_ge (tgt := 54) hx hb k4 n rfl rfl (by omega) (by omega) dX6_doublets_9 (by decide) (fun h9 => ?_) (fun h9 => ?_)
    · exfalso; omega
    · refine lv_iconst (v := 0) hx hb dX6_doublets_12 (by decide) ?_
      refine lv_istore (lv' := [(4, .int 0), (3, .int (nI k4)), (1, .long (lN z4)), (0, .ref (a 0))]) hx hb dX6_doublets_13 hl (by decide) rfl (fun ls hl => ?_)
      refine rloopZ (nL := 5) 0 n (fun j z => if 0 < vE G k4 j then z + 1 else z) z4 (fun k15 z15 => [(4, .int (nI k15)), (3, .int (nI k4)), (1, .long (lN z15)), (0, .ref (a 0))]) (fun _ _ => True) (by omega) (trivial) (lv_sub hl [0, 1, 2, 3] rfl) (fun k15 z15 hlo15 hk15 hz15 hI15 ls hl ih15 => ?_) (fun z15 hz15 hI15 ls hl => ?_)
      · refine lv_iload hx hb dX6_doublets_15 (lv_at hl 0 rfl) ?_
        refine lv_aload_n hx hb dX6_doublets_17 rfl (lv_at hl 3 rfl) ?_
        refine va_get (D := (dC, dI)) (ci := 6) (v := .int (nI n)) (C := RX6) (T := TX6) (N := 18) hx hb hts (by decide +kernel) hown hK hP 0 rfl rfl 2 (by decide) (hts (.fieldLink RX6 35 "AchromatDeskModel" "glasses" "I") (by decide +kernel)) (fun _ h9 => h9) rfl dX6_doublets_18 ?_
        refine rn_ge (tgt := 48) hx hb k15 n rfl rfl (by omega) (by omega) dX6_doublets_21 (by decide) (fun h21 => ?_) (fun h21 => ?_)
        · exfalso; omega
        · refine lv_lload_n hx hb dX6_doublets_24 rfl (lv_at hl 2 rfl) ?_
          refine lv_aload_n hx hb dX6_doublets_25 rfl (lv_at hl 3 rfl) ?_
          refine lv_iload_n hx hb dX6_doublets_26 rfl (lv_at hl 1 rfl) ?_
          refine lv_iload hx hb dX6_doublets_27 (lv_at hl 0 rfl) ?_
          refine roVi (As := [.int (nI k4), .int (nI k15)]) (rest := [.long (lN z15)]) (c_X6_isDoublet l dC dI cI cJ a bf ln (by omega) G n (by omega) lg lp k (by omega) rd np (by omega) M hG hL hR k4 k15 (by omega) (by omega)) ⟨hx, hb, hml, hown, hts⟩ (cwV 2 hts gX6_doublets_X6_isDoublet rfl rfl rfl (by decide +kernel) ⟨Nat.le_of_ble_eq_true rfl, Nat.le_of_ble_eq_true rfl⟩) (hP.sub [0, 1, 2, 3, 4, 5, 6, 7, 8] rfl) hK hN (ci := 6) rfl rfl rfl hl.1 rfl (Nat.le_of_ble_eq_true rfl) dX6_doublets_29 ⟨Nat.zero_le _, Nat.zero_le _⟩ (fun r hr0 => ?_)
          subst hr0
          refine rb_eq (tgt := 39) hx hb dX6_doublets_32 (by decide) (fun h32 => ?_) (fun h32 => ?_)
          · refine lv_lconst (v := 0) hx hb dX6_doublets_39 (by decide) ?_
            refine lv_ladd hx hb dX6_doublets_40 ?_
            refine rw_topl (lN_add z15 0) ?_
            refine lv_lstore_n (lv' := [(1, .long (lN (z15 + 0))), (4, .int (nI k15)), (3, .int (nI k4)), (0, .ref (a 0))]) hx hb dX6_doublets_41 rfl hl (by decide) rfl (fun ls hl => ?_)
            refine lv_iinc (v := nI (k15 + 1)) (lv' := [(4, .int (nI (k15 + 1))), (1, .long (lN (z15 + 0))), (3, .int (nI k4)), (0, .ref (a 0))]) hx hb dX6_doublets_42 hl (k := 1) rfl (by first | rfl | exact nI_add _ _) (by decide) rfl (fun ls hl => ?_)
            refine lv_goto (tgt := 15) hx hb dX6_doublets_45 (by decide) ?_
            exact ih15 z15 ((if_neg h32).symm) (trivial) ls (lv_sub hl [0, 2, 1, 3] rfl)
          · refine lv_lconst (v := 1) hx hb dX6_doublets_35 (by decide) ?_
            refine lv_goto (tgt := 40) hx hb dX6_doublets_36 (by decide) ?_
            refine lv_ladd hx hb dX6_doublets_40 ?_
            refine rw_topl (lN_add z15 1) ?_
            refine lv_lstore_n (lv' := [(1, .long (lN (z15 + 1))), (4, .int (nI k15)), (3, .int (nI k4)), (0, .ref (a 0))]) hx hb dX6_doublets_41 rfl hl (by decide) rfl (fun ls hl => ?_)
            refine lv_iinc (v := nI (k15 + 1)) (lv' := [(4, .int (nI (k15 + 1))), (1, .long (lN (z15 + 1))), (3, .int (nI k4)), (0, .ref (a 0))]) hx hb dX6_doublets_42 hl (k := 1) rfl (by first | rfl | exact nI_add _ _) (by decide) rfl (fun ls hl => ?_)
            refine lv_goto (tgt := 15) hx hb dX6_doublets_45 (by decide) ?_
            exact ih15 (z15 + 1) ((if_pos h32).symm) (trivial) ls (lv_sub hl [0, 2, 1, 3] rfl)
      · refine lv_iload hx hb dX6_doublets_15 (lv_at hl 0 rfl) ?_
        refine lv_aload_n hx hb dX6_doublets_17 rfl (lv_at hl 3 rfl) ?_
        refine va_get (D := (dC, dI)) (ci := 6) (v := .int (nI n)) (C := RX6) (T := TX6) (N := 18) hx hb hts (by decide +kernel) hown hK hP 0 rfl rfl 2 (by decide) (hts (.fieldLink RX6 35 "AchromatDeskModel" "glasses" "I") (by decide +kernel)) (fun _ h9 => h9) rfl dX6_doublets_18 ?_
        refine rn_ge (tgt := 48) hx hb n n rfl rfl (by omega) (by omega) dX6_doublets_21 (by decide) (fun h21 => ?_) (fun h21 => ?_)
        · refine lv_iinc (v := nI (k4 + 1)) (lv' := [(3, .int (nI (k4 + 1))), (4, .int (nI n)), (1, .long (lN z15)), (0, .ref (a 0))]) hx hb dX6_doublets_48 hl (k := 1) rfl (by first | rfl | exact nI_add _ _) (by decide) rfl (fun ls hl => ?_)
          refine lv_goto (tgt := 4) hx hb dX6_doublets_51 (by decide) ?_
          exact ih4 z15 (hz15) (trivial) ls (lv_sub hl [0, 2, 3] rfl)
        · exfalso; omega
  · refine lv_iload_n hx hb dX6_doublets_4 rfl (lv_at hl 0 rfl) ?_
    refine lv_aload_n hx hb dX6_doublets_5 rfl (lv_at hl 2 rfl) ?_
    refine va_get (D := (dC, dI)) (ci := 6) (v := .int (nI n)) (C := RX6) (T := TX6) (N := 18) hx hb hts (by decide +kernel) hown hK hP 0 rfl rfl 2 (by decide) (hts (.fieldLink RX6 35 "AchromatDeskModel" "glasses" "I") (by decide +kernel)) (fun _ h9 => h9) rfl dX6_doublets_6 ?_
    refine rn_ge (tgt := 54) hx hb n n rfl rfl (by omega) (by omega) dX6_doublets_9 (by decide) (fun h9 => ?_) (fun h9 => ?_)
    · refine lv_lload_n hx hb dX6_doublets_54 rfl (lv_at hl 1 rfl) ?_
      exact W.lret hx hb hr (fun t ht hW => ⟨_, rfl, by rw [hz4]; rfl, ht⟩) (fun _ h => absurd h List.not_mem_nil) dX6_doublets_55
    · exfalso; omega

set_option maxHeartbeats 4000000 in
set_option maxRecDepth 100000 in
theorem c_X6_doubletCount (l : Launch) (dC : Nat → ClassId) (dI : Nat → Nat → Nat) (cI cJ : ClassId) (a : Nat → Nat) (bf : Nat → Int32) (ln : Nat) (hln : ln ≤ 28) (G : GL) (n : Nat) (hn : n ≤ 20) (lg lp : Nat → Int32) (k : Nat) (hk : k ≤ 8) (rd : Nat → Int32) (np : Nat) (hp : np ≤ 16) (M : MS) (hG : gOK G n) (hL : lOK lg k n) (hR : rOK rd np)  : Met l yX6_doubletCount wsX6_doubletCount ({ frames := 4, cells := 0, slots := 0, locals := 89 }) (va_Pc [.ref (a 0)] (RO (dC, dI) (tyK cI cJ) ([(a 0, .inr (6, [.int (nI ln), .ref (a 1), .int (nI n), .ref (a 2), .ref (a 3), .int (nI k), .ref (a 4), .ref (a 5), .int (nI np), .ref (a 6), .long M.1, .ref (a 7), .int M.2.1, .int M.2.2.1, .int M.2.2.2.1, .int M.2.2.2.2.1, .ref (a 8), .long M.2.2.2.2.2.1])), (a 1, .inl (cI, 28, .inl bf)), (a 2, .inl (cJ, 20, .inr (.inl (gK G)))), (a 3, .inl (cI, 60, .inl (ilv G))), (a 4, .inl (cI, 8, .inl lg)), (a 5, .inl (cI, 8, .inl lp)), (a 6, .inl (cI, 16, .inl rd)), (a 7, .inl (cI, 3, .inl M.2.2.2.2.2.2.1)), (a 8, .inl (cJ, 3, .inr (.inl M.2.2.2.2.2.2.2)))]))) (vp_Sl (fun r => r = lN (cntD G n))) 0 0 (fun _ => False) := by
  refine Met.ofW (cc := cX6_doubletCount) (maxL := 1) (ret := (some .long)) (by decide) rfl ?_
  intro p e s m args below meth c s₁ B hml hv
  obtain ⟨rfl, hP, hK, hN⟩ := hv
  have hx := B.exec
  have hb := B.bytes
  have hr := B.returns
  have hts := atoms_spec (ws := wsX6_doubletCount) B.pre
  have hown : s.vm.findClass RX6 = some m.cls := findClass_of_methodNamed B.named
  have hlocks := B.notSynchronized
  have hP : va_P (dC, dI) vwCl [(a 0, .inr (6, [.int (nI ln), .ref (a 1), .int (nI n), .ref (a 2), .ref (a 3), .int (nI k), .ref (a 4), .ref (a 5), .int (nI np), .ref (a 6), .long M.1, .ref (a 7), .int M.2.1, .int M.2.2.1, .int M.2.2.2.1, .int M.2.2.2.2.1, .ref (a 8), .long M.2.2.2.2.2.1])), (a 1, .inl (cI, 28, .inl bf)), (a 2, .inl (cJ, 20, .inr (.inl (gK G)))), (a 3, .inl (cI, 60, .inl (ilv G))), (a 4, .inl (cI, 8, .inl lg)), (a 5, .inl (cI, 8, .inl lp)), (a 6, .inl (cI, 16, .inl rd)), (a 7, .inl (cI, 3, .inl M.2.2.2.2.2.2.1)), (a 8, .inl (cJ, 3, .inr (.inl M.2.2.2.2.2.2.2)))] s.heap := hP
  have hl := lv_entry ([.ref (a 0)]) (n := 1) (Nat.le_of_ble_eq_true rfl)
  rw [lg_entry_eq]
  generalize (lg_sl ([.ref (a 0)]) ++ List.replicate (1 - (lg_sl ([.ref (a 0)])).length) Slot.unset).toArray = ls at hl ⊢
  have hl : lv_has ls 1 [(0, .ref (a 0))] := hl
  refine lv_aload_n hx hb dX6_doubletCount_0 rfl (lv_at hl 0 rfl) ?_
  refine roVl (As := []) (rest := []) (c_X6_doublets l dC dI cI cJ a bf ln (by omega) G n (by omega) lg lp k (by omega) rd np (by omega) M hG hL hR ) ⟨hx, hb, hml, hown, hts⟩ (cwV 0 hts gX6_doubletCount_X6_doublets rfl rfl rfl (by decide +kernel) ⟨Nat.le_of_ble_eq_true rfl, Nat.le_of_ble_eq_true rfl⟩) (hP.sub [0, 1, 2, 3, 4, 5, 6, 7, 8] rfl) hK hN (ci := 6) rfl rfl rfl hl.1 rfl (Nat.le_of_ble_eq_true rfl) dX6_doubletCount_1 ⟨Nat.zero_le _, Nat.zero_le _⟩ (fun r hr0 => ?_)
  subst hr0
  exact W.lret hx hb hr (fun t ht hW => ⟨_, rfl, rfl, ht⟩) (fun _ h => absurd h List.not_mem_nil) dX6_doubletCount_4

set_option maxHeartbeats 4000000 in
set_option maxRecDepth 100000 in
theorem c_X6_findNext (l : Launch) (dC : Nat → ClassId) (dI : Nat → Nat → Nat) (cI cJ : ClassId) (sz : Nat) (a : Nat → Nat) (bf : Nat → Int32) (ln : Nat) (hln : ln ≤ 28) (G : GL) (n : Nat) (hn : n ≤ 20) (lg lp : Nat → Int32) (k : Nat) (hk : k ≤ 8) (rd : Nat → Int32) (np : Nat) (hp : np ≤ 16) (M : MS) (hG : gOK G n) (hL : lOK lg k n) (hR : rOK rd np) (cu : Option (Nat × Nat)) (hcu : ∀ d, cu = some d → d.1 < n ∧ d.2 < n ∧ M.2.2.2.2.1 = nI d.2) (hcf : M.2.2.2.1 = oF cu) (bs : Int32) : Met l yX6_findNext wsX6_findNext ({ frames := 3, cells := 0, slots := 0, locals := 76 }) (va_Pc [.ref (a 0), .int bs] (MU (dC, dI) (tyK cI cJ) ([(a 0, .inr (6, [.int (nI ln), .ref (a 1), .int (nI n), .ref (a 2), .ref (a 3), .int (nI k), .ref (a 4), .ref (a 5), .int (nI np), .ref (a 6), .long M.1, .ref (a 7), .int M.2.1, .int M.2.2.1, .int M.2.2.2.1, .int M.2.2.2.2.1, .ref (a 8), .long M.2.2.2.2.2.1])), (a 1, .inl (cI, 28, .inl bf)), (a 2, .inl (cJ, 20, .inr (.inl (gK G)))), (a 3, .inl (cI, 60, .inl (ilv G))), (a 4, .inl (cI, 8, .inl lg)), (a 5, .inl (cI, 8, .inl lp)), (a 6, .inl (cI, 16, .inl rd)), (a 7, .inl (cI, 3, .inl M.2.2.2.2.2.2.1)), (a 8, .inl (cJ, 3, .inr (.inl M.2.2.2.2.2.2.2)))]) sz)) (va_Qv (fun _ => True) (MB (dC, dI) ([(a 0, .inr (6, [.int (nI ln), .ref (a 1), .int (nI n), .ref (a 2), .ref (a 3), .int (nI k), .ref (a 4), .ref (a 5), .int (nI np), .ref (a 6), .long M.1, .ref (a 7), .int M.2.1, .int M.2.2.1, .int M.2.2.2.1, .int M.2.2.2.2.1, .ref (a 8), .long M.2.2.2.2.2.1])), (a 1, .inl (cI, 28, .inl bf)), (a 2, .inl (cJ, 20, .inr (.inl (gK G)))), (a 3, .inl (cI, 60, .inl (ilv G))), (a 4, .inl (cI, 8, .inl lg)), (a 5, .inl (cI, 8, .inl lp)), (a 6, .inl (cI, 16, .inl rd)), (a 7, .inl (cI, 3, .inl M.2.2.2.2.2.2.1)), (a 8, .inl (cJ, 3, .inr (.inl M.2.2.2.2.2.2.2)))]) sz (fun (_ : Unit) => [(a 0, .inr (6, [.int (nI ln), .ref (a 1), .int (nI n), .ref (a 2), .ref (a 3), .int (nI k), .ref (a 4), .ref (a 5), .int (nI np), .ref (a 6), .long M.1, .ref (a 7), .int M.2.1, .int M.2.2.1, .int (oF (nxF G n bs cu)), .int (oS (nxF G n bs cu)), .ref (a 8), .long M.2.2.2.2.2.1])), (a 1, .inl (cI, 28, .inl bf)), (a 2, .inl (cJ, 20, .inr (.inl (gK G)))), (a 3, .inl (cI, 60, .inl (ilv G))), (a 4, .inl (cI, 8, .inl lg)), (a 5, .inl (cI, 8, .inl lp)), (a 6, .inl (cI, 16, .inl rd)), (a 7, .inl (cI, 3, .inl M.2.2.2.2.2.2.1)), (a 8, .inl (cJ, 3, .inr (.inl M.2.2.2.2.2.2.2)))])) (va_A ([(a 0, .inr (6, [.int (nI ln), .ref (a 1), .int (nI n), .ref (a 2), .ref (a 3), .int (nI k), .ref (a 4), .ref (a 5), .int (nI np), .ref (a 6), .long M.1, .ref (a 7), .int M.2.1, .int M.2.2.1, .int M.2.2.2.1, .int M.2.2.2.2.1, .ref (a 8), .long M.2.2.2.2.2.1])), (a 1, .inl (cI, 28, .inl bf)), (a 2, .inl (cJ, 20, .inr (.inl (gK G)))), (a 3, .inl (cI, 60, .inl (ilv G))), (a 4, .inl (cI, 8, .inl lg)), (a 5, .inl (cI, 8, .inl lp)), (a 6, .inl (cI, 16, .inl rd)), (a 7, .inl (cI, 3, .inl M.2.2.2.2.2.2.1)), (a 8, .inl (cJ, 3, .inr (.inl M.2.2.2.2.2.2.2)))]) sz)) 0 0 (va_A ([(a 0, .inr (6, [.int (nI ln), .ref (a 1), .int (nI n), .ref (a 2), .ref (a 3), .int (nI k), .ref (a 4), .ref (a 5), .int (nI np), .ref (a 6), .long M.1, .ref (a 7), .int M.2.1, .int M.2.2.1, .int M.2.2.2.1, .int M.2.2.2.2.1, .ref (a 8), .long M.2.2.2.2.2.1])), (a 1, .inl (cI, 28, .inl bf)), (a 2, .inl (cJ, 20, .inr (.inl (gK G)))), (a 3, .inl (cI, 60, .inl (ilv G))), (a 4, .inl (cI, 8, .inl lg)), (a 5, .inl (cI, 8, .inl lp)), (a 6, .inl (cI, 16, .inl rd)), (a 7, .inl (cI, 3, .inl M.2.2.2.2.2.2.1)), (a 8, .inl (cJ, 3, .inr (.inl M.2.2.2.2.2.2.2)))]) sz) := by
  refine Met.ofW (cc := cX6_findNext) (maxL := 7) (ret := none) (by decide) rfl ?_
  intro p e s m args below meth c s₁ B hml hv
  obtain ⟨rfl, hsz, hP, hK, hN, hD0⟩ := hv
  have hx := B.exec
  have hb := B.bytes
  have hr := B.returns
  have hts := atoms_spec (ws := wsX6_findNext) B.pre
  have hown : s.vm.findClass RX6 = some m.cls := findClass_of_methodNamed B.named
  have hlocks := B.notSynchronized
  subst hsz
  have hD := hD0.self (sz := s.heap.size)
  generalize hAe : va_A ([(a 0, .inr (6, [.int (nI ln), .ref (a 1), .int (nI n), .ref (a 2), .ref (a 3), .int (nI k), .ref (a 4), .ref (a 5), .int (nI np), .ref (a 6), .long M.1, .ref (a 7), .int M.2.1, .int M.2.2.1, .int M.2.2.2.1, .int M.2.2.2.2.1, .ref (a 8), .long M.2.2.2.2.2.1])), (a 1, .inl (cI, 28, .inl bf)), (a 2, .inl (cJ, 20, .inr (.inl (gK G)))), (a 3, .inl (cI, 60, .inl (ilv G))), (a 4, .inl (cI, 8, .inl lg)), (a 5, .inl (cI, 8, .inl lp)), (a 6, .inl (cI, 16, .inl rd)), (a 7, .inl (cI, 3, .inl M.2.2.2.2.2.2.1)), (a 8, .inl (cJ, 3, .inr (.inl M.2.2.2.2.2.2.2)))]) s.heap.size = A at hD ⊢
  have hA : ∀ q : Nat, s.heap.size ≤ q → A q := fun q h => by rw [← hAe]; exact Or.inr h
  have hS : va_S A s.heap s.heap [] := va_S.rf
  have hP : va_P (dC, dI) vwCl [(a 0, .inr (6, [.int (nI ln), .ref (a 1), .int (nI n), .ref (a 2), .ref (a 3), .int (nI k), .ref (a 4), .ref (a 5), .int (nI np), .ref (a 6), .long M.1, .ref (a 7), .int M.2.1, .int M.2.2.1, .int M.2.2.2.1, .int M.2.2.2.2.1, .ref (a 8), .long M.2.2.2.2.2.1])), (a 1, .inl (cI, 28, .inl bf)), (a 2, .inl (cJ, 20, .inr (.inl (gK G)))), (a 3, .inl (cI, 60, .inl (ilv G))), (a 4, .inl (cI, 8, .inl lg)), (a 5, .inl (cI, 8, .inl lp)), (a 6, .inl (cI, 16, .inl rd)), (a 7, .inl (cI, 3, .inl M.2.2.2.2.2.2.1)), (a 8, .inl (cJ, 3, .inr (.inl M.2.2.2.2.2.2.2)))] s.heap := hP
  have hD : va_D A [(a 0, .inr (6, [.int (nI ln), .ref (a 1), .int (nI n), .ref (a 2), .ref (a 3), .int (nI k), .ref (a 4), .ref (a 5), .int (nI np), .ref (a 6), .long M.1, .ref (a 7), .int M.2.1, .int M.2.2.1, .int M.2.2.2.1, .int M.2.2.2.2.1, .ref (a 8), .long M.2.2.2.2.2.1])), (a 1, .inl (cI, 28, .inl bf)), (a 2, .inl (cJ, 20, .inr (.inl (gK G)))), (a 3, .inl (cI, 60, .inl (ilv G))), (a 4, .inl (cI, 8, .inl lg)), (a 5, .inl (cI, 8, .inl lp)), (a 6, .inl (cI, 16, .inl rd)), (a 7, .inl (cI, 3, .inl M.2.2.2.2.2.2.1)), (a 8, .inl (cJ, 3, .inr (.inl M.2.2.2.2.2.2.2)))] := hD
  obtain ⟨H, hH⟩ : ∃ H : Heap, H = s.heap := ⟨_, rfl⟩
  obtain ⟨locs, hlc⟩ : ∃ locs : List Loc, locs = [] := ⟨_, rfl⟩
  have hl := lv_entry ([.ref (a 0), .int bs]) (n := 7) (Nat.le_of_ble_eq_true rfl)
  rw [lg_entry_eq]
  generalize (lg_sl ([.ref (a 0), .int bs]) ++ List.replicate (7 - (lg_sl ([.ref (a 0), .int bs])).length) Slot.unset).toArray = ls at hl ⊢
  have hl : lv_has ls 7 [(0, .ref (a 0)), (1, .int bs)] := hl
  refine mu_in hH hlc (fun hS hP hD => ?_) hS hP hD
  clear hH hlc
  refine lv_iconst (v := (-1)) hx hb dX6_findNext_0 (by decide) ?_
  refine lv_istore_n (lv' := [(2, .int (-1)), (0, .ref (a 0)), (1, .int bs)]) hx hb dX6_findNext_1 rfl hl (by decide) rfl (fun ls hl => ?_)
  refine lv_iconst (v := (-1)) hx hb dX6_findNext_2 (by decide) ?_
  refine lv_istore_n (lv' := [(3, .int (-1)), (2, .int (-1)), (0, .ref (a 0)), (1, .int bs)]) hx hb dX6_findNext_3 rfl hl (by decide) rfl (fun ls hl => ?_)
  refine lv_iconst (v := 0) hx hb dX6_findNext_4 (by decide) ?_
  refine lv_istore (lv' := [(4, .int 0), (3, .int (-1)), (2, .int (-1)), (0, .ref (a 0)), (1, .int bs)]) hx hb dX6_findNext_5 hl (by decide) rfl (fun ls hl => ?_)
  refine rloopZ (nL := 7) 0 n (fun i z => nx2 G n bs cu i z) (none : Option (Nat × Nat)) (fun k7 z7 => [(4, .int (nI k7)), (3, .int (oS z7)), (2, .int (oF z7)), (0, .ref (a 0)), (1, .int bs)]) (fun _ z => ∀ d, z = some d → d.1 < n ∧ d.2 < n) (by omega) (fun d h => (by cases h)) (lv_sub hl [0, 1, 2, 3, 4] rfl) (fun k7 z7 hlo7 hk7 hz7 hI7 ls hl ih7 => ?_) (fun z7 hz7 hI7 ls hl => ?_)
  · refine lv_iload hx hb dX6_findNext_7 (lv_at hl 0 rfl) ?_
    refine lv_aload_n hx hb dX6_findNext_9 rfl (lv_at hl 3 rfl) ?_
    refine va_get (D := (dC, dI)) (ci := 6) (v := .int (nI n)) (C := RX6) (T := TX6) (N := 18) hx hb hts (by decide +kernel) hown hK hP 0 rfl rfl 2 (by decide) (hts (.fieldLink RX6 35 "AchromatDeskModel" "glasses" "I") (by decide +kernel)) (fun _ h9 => h9) rfl dX6_findNext_10 ?_
    refine rn_ge (tgt := 127) hx hb k7 n rfl rfl (by omega) (by omega) dX6_findNext_13 (by decide) (fun h13 => ?_) (fun h13 => ?_)
    · exfalso; omega
    · refine lv_iconst (v := 0) hx hb dX6_findNext_16 (by decide) ?_
      refine lv_istore (lv' := [(5, .int 0), (4, .int (nI k7)), (3, .int (oS z7)), (2, .int (oF z7)), (0, .ref (a 0)), (1, .int bs)]) hx hb dX6_findNext_17 hl (by decide) rfl (fun ls hl => ?_)
      refine rloopZ (nL := 7) 0 n (fun j z => nx1 G bs cu k7 j z) z7 (fun k19 z19 => [(5, .int (nI k19)), (4, .int (nI k7)), (3, .int (oS z19)), (2, .int (oF z19)), (0, .ref (a 0)), (1, .int bs)]) (fun _ z => ∀ d, z = some d → d.1 < n ∧ d.2 < n) (by omega) (hI7) (lv_sub hl [0, 1, 2, 3, 4, 5] rfl) (fun k19 z19 hlo19 hk19 hz19 hI19 ls hl ih19 => ?_) (fun z19 hz19 hI19 ls hl => ?_)
      · refine lv_iload hx hb dX6_findNext_19 (lv_at hl 0 rfl) ?_
        refine lv_aload_n hx hb dX6_findNext_21 rfl (lv_at hl 4 rfl) ?_
        refine va_get (D := (dC, dI)) (ci := 6) (v := .int (nI n)) (C := RX6) (T := TX6) (N := 18) hx hb hts (by decide +kernel) hown hK hP 0 rfl rfl 2 (by decide) (hts (.fieldLink RX6 35 "AchromatDeskModel" "glasses" "I") (by decide +kernel)) (fun _ h9 => h9) rfl dX6_findNext_22 ?_
        refine rn_ge (tgt := 121) hx hb k19 n rfl rfl (by omega) (by omega) dX6_findNext_25 (by decide) (fun h25 => ?_) (fun h25 => ?_)
        · exfalso; omega
        · refine lv_aload_n hx hb dX6_findNext_28 rfl (lv_at hl 4 rfl) ?_
          refine lv_iload hx hb dX6_findNext_29 (lv_at hl 1 rfl) ?_
          refine lv_iload hx hb dX6_findNext_31 (lv_at hl 0 rfl) ?_
          refine roVi (As := [.int (nI k7), .int (nI k19)]) (rest := []) (c_X6_isDoublet l dC dI cI cJ a bf ln (by omega) G n (by omega) lg lp k (by omega) rd np (by omega) M hG hL hR k7 k19 (by omega) (by omega)) ⟨hx, hb, hml, hown, hts⟩ (cwV 2 hts gX6_findNext_X6_isDoublet rfl rfl rfl (by decide +kernel) ⟨Nat.le_of_ble_eq_true rfl, Nat.le_of_ble_eq_true rfl⟩) (hP.sub [0, 1, 2, 3, 4, 5, 6, 7, 8] rfl) hK hN (ci := 6) rfl rfl rfl hl.1 rfl (Nat.le_of_ble_eq_true rfl) dX6_findNext_33 ⟨Nat.zero_le _, Nat.zero_le _⟩ (fun r hr0 => ?_)
          subst hr0
          refine rb_eq (tgt := 88) hx hb dX6_findNext_36 (by decide) (fun h36 => ?_) (fun h36 => ?_)
          · refine lv_iconst (v := 0) hx hb dX6_findNext_88 (by decide) ?_
            refine lv_istore (lv' := [(6, .int 0), (5, .int (nI k19)), (4, .int (nI k7)), (3, .int (oS z19)), (2, .int (oF z19)), (0, .ref (a 0)), (1, .int bs)]) hx hb dX6_findNext_89 hl (by decide) rfl (fun ls hl => ?_)
            refine lv_iload hx hb dX6_findNext_91 (lv_at hl 0 rfl) ?_
            refine rz_eq (tgt := 101) hx hb 0 rfl (by omega) dX6_findNext_93 (by decide) (fun h93 => ?_) (fun h93 => ?_)
            · refine lv_iload_n hx hb dX6_findNext_101 rfl (lv_at hl 4 rfl) ?_
              refine lv_istore_n (lv' := [(2, .int (oF z19)), (6, .int 0), (5, .int (nI k19)), (4, .int (nI k7)), (3, .int (oS z19)), (0, .ref (a 0)), (1, .int bs)]) hx hb dX6_findNext_102 rfl hl (by decide) rfl (fun ls hl => ?_)
              refine lv_iload hx hb dX6_findNext_103 (lv_at hl 1 rfl) ?_
              refine rz_eq (tgt := 113) hx hb 0 rfl (by omega) dX6_findNext_105 (by decide) (fun h105 => ?_) (fun h105 => ?_)
              · refine lv_iload_n hx hb dX6_findNext_113 rfl (lv_at hl 4 rfl) ?_
                refine lv_istore_n (lv' := [(3, .int (oS z19)), (2, .int (oF z19)), (6, .int 0), (5, .int (nI k19)), (4, .int (nI k7)), (0, .ref (a 0)), (1, .int bs)]) hx hb dX6_findNext_114 rfl hl (by decide) rfl (fun ls hl => ?_)
                refine lv_iinc (v := nI (k19 + 1)) (lv' := [(5, .int (nI (k19 + 1))), (3, .int (oS z19)), (2, .int (oF z19)), (6, .int 0), (4, .int (nI k7)), (0, .ref (a 0)), (1, .int bs)]) hx hb dX6_findNext_115 hl (k := 3) rfl (by first | rfl | exact nI_add _ _) (by decide) rfl (fun ls hl => ?_)
                refine lv_goto (tgt := 19) hx hb dX6_findNext_118 (by decide) ?_
                exact ih19 z19 ((if_neg (fun w => h36 w.1)).symm) (hI19) ls (lv_sub hl [0, 4, 1, 2, 5, 6] rfl)
              · exact absurd h105 (by decide)
            · exact absurd h93 (by decide)
          · refine lv_aload_n hx hb dX6_findNext_39 rfl (lv_at hl 4 rfl) ?_
            refine va_get (D := (dC, dI)) (ci := 6) (v := .int M.2.2.2.1) (C := RX6) (T := TX6) (N := 18) hx hb hts (by decide +kernel) hown hK hP 0 rfl rfl 14 (by decide) (hts (.fieldLink RX6 168 "AchromatDeskModel" "one" "I") (by decide +kernel)) (fun _ h9 => h9) rfl dX6_findNext_40 ?_
            refine rw_topi (show (M.2.2.2.1 : Int32) = (oF cu : Int32) from hcf) ?_
            refine lv_if_lt (tgt := 66) hx hb dX6_findNext_43 (by decide) (fun h43 => ?_) (fun h43 => ?_)
            · have hcu0 : cu = none := oF_neg hn (fun d hd => (hcu d hd).1) h43
              refine lv_iload_n hx hb dX6_findNext_66 rfl (lv_at hl 3 rfl) ?_
              refine lv_if_lt (tgt := 84) hx hb dX6_findNext_67 (by decide) (fun h67 => ?_) (fun h67 => ?_)
              · have hz0 : z19 = none := oF_neg hn (fun d hd => (hI19 d hd).1) h67
                refine lv_iconst (v := 1) hx hb dX6_findNext_84 (by decide) ?_
                refine lv_goto (tgt := 89) hx hb dX6_findNext_85 (by decide) ?_
                refine lv_istore (lv' := [(6, .int 1), (5, .int (nI k19)), (4, .int (nI k7)), (3, .int (oS z19)), (2, .int (oF z19)), (0, .ref (a 0)), (1, .int bs)]) hx hb dX6_findNext_89 hl (by decide) rfl (fun ls hl => ?_)
                refine lv_iload hx hb dX6_findNext_91 (lv_at hl 0 rfl) ?_
                refine rz_eq (tgt := 101) hx hb 1 rfl (by omega) dX6_findNext_93 (by decide) (fun h93 => ?_) (fun h93 => ?_)
                · exact absurd h93 (by decide)
                · refine lv_iload hx hb dX6_findNext_96 (lv_at hl 2 rfl) ?_
                  refine lv_goto (tgt := 102) hx hb dX6_findNext_98 (by decide) ?_
                  refine lv_istore_n (lv' := [(2, .int (nI k7)), (6, .int 1), (5, .int (nI k19)), (4, .int (nI k7)), (3, .int (oS z19)), (0, .ref (a 0)), (1, .int bs)]) hx hb dX6_findNext_102 rfl hl (by decide) rfl (fun ls hl => ?_)
                  refine lv_iload hx hb dX6_findNext_103 (lv_at hl 1 rfl) ?_
                  refine rz_eq (tgt := 113) hx hb 1 rfl (by omega) dX6_findNext_105 (by decide) (fun h105 => ?_) (fun h105 => ?_)
                  · exact absurd h105 (by decide)
                  · refine lv_iload hx hb dX6_findNext_108 (lv_at hl 2 rfl) ?_
                    refine lv_goto (tgt := 114) hx hb dX6_findNext_110 (by decide) ?_
                    refine lv_istore_n (lv' := [(3, .int (nI k19)), (2, .int (nI k7)), (6, .int 1), (5, .int (nI k19)), (4, .int (nI k7)), (0, .ref (a 0)), (1, .int bs)]) hx hb dX6_findNext_114 rfl hl (by decide) rfl (fun ls hl => ?_)
                    refine lv_iinc (v := nI (k19 + 1)) (lv' := [(5, .int (nI (k19 + 1))), (3, .int (nI k19)), (2, .int (nI k7)), (6, .int 1), (4, .int (nI k7)), (0, .ref (a 0)), (1, .int bs)]) hx hb dX6_findNext_115 hl (k := 3) rfl (by first | rfl | exact nI_add _ _) (by decide) rfl (fun ls hl => ?_)
                    refine lv_goto (tgt := 19) hx hb dX6_findNext_118 (by decide) ?_
                    exact ih19 (some (k7, k19)) ((if_pos ⟨h36, (by rw [hcu0]; rfl), (by rw [hz0]; rfl)⟩).symm) (fun d h => (by cases h; exact ⟨by omega, by omega⟩)) ls (lv_sub hl [0, 4, 1, 2, 5, 6] rfl)
              · obtain ⟨d1, hd1⟩ := oF_pos h67
                have hb1 := hI19 d1 hd1
                refine lv_aload_n hx hb dX6_findNext_70 rfl (lv_at hl 4 rfl) ?_
                refine lv_iload hx hb dX6_findNext_71 (lv_at hl 1 rfl) ?_
                refine lv_iload hx hb dX6_findNext_73 (lv_at hl 0 rfl) ?_
                refine lv_iload_n hx hb dX6_findNext_75 rfl (lv_at hl 3 rfl) ?_
                refine rw_topi (show (oF z19 : Int32) = (nI d1.1 : Int32) from by rw [hd1]; rfl) ?_
                refine lv_iload_n hx hb dX6_findNext_76 rfl (lv_at hl 2 rfl) ?_
                refine rw_topi (show (oS z19 : Int32) = (nI d1.2 : Int32) from by rw [hd1]; rfl) ?_
                refine lv_iload_n hx hb dX6_findNext_77 rfl (lv_at hl 5 rfl) ?_
                refine roVi (As := [.int (nI k7), .int (nI k19), .int (nI d1.1), .int (nI d1.2), .int bs]) (rest := []) (c_X6_isBefore l dC dI cI cJ a bf ln (by omega) G n (by omega) lg lp k (by omega) rd np (by omega) M hG hL hR k7 k19 d1.1 d1.2 (by omega) (by omega) (by omega) (by omega) bs) ⟨hx, hb, hml, hown, hts⟩ (cwV 5 hts gX6_findNext_X6_isBefore rfl rfl rfl (by decide +kernel) ⟨Nat.le_of_ble_eq_true rfl, Nat.le_of_ble_eq_true rfl⟩) (hP.sub [0, 1, 2, 3, 4, 5, 6, 7, 8] rfl) hK hN (ci := 6) rfl rfl rfl hl.1 rfl (Nat.le_of_ble_eq_true rfl) dX6_findNext_78 ⟨Nat.zero_le _, Nat.zero_le _⟩ (fun r hr0 => ?_)
                subst hr0
                refine rb_eq (tgt := 88) hx hb dX6_findNext_81 (by decide) (fun h81 => ?_) (fun h81 => ?_)
                · refine lv_iconst (v := 0) hx hb dX6_findNext_88 (by decide) ?_
                  refine lv_istore (lv' := [(6, .int 0), (5, .int (nI k19)), (4, .int (nI k7)), (3, .int (oS z19)), (2, .int (oF z19)), (0, .ref (a 0)), (1, .int bs)]) hx hb dX6_findNext_89 hl (by decide) rfl (fun ls hl => ?_)
                  refine lv_iload hx hb dX6_findNext_91 (lv_at hl 0 rfl) ?_
                  refine rz_eq (tgt := 101) hx hb 0 rfl (by omega) dX6_findNext_93 (by decide) (fun h93 => ?_) (fun h93 => ?_)
                  · refine lv_iload_n hx hb dX6_findNext_101 rfl (lv_at hl 4 rfl) ?_
                    refine lv_istore_n (lv' := [(2, .int (oF z19)), (6, .int 0), (5, .int (nI k19)), (4, .int (nI k7)), (3, .int (oS z19)), (0, .ref (a 0)), (1, .int bs)]) hx hb dX6_findNext_102 rfl hl (by decide) rfl (fun ls hl => ?_)
                    refine lv_iload hx hb dX6_findNext_103 (lv_at hl 1 rfl) ?_
                    refine rz_eq (tgt := 113) hx hb 0 rfl (by omega) dX6_findNext_105 (by decide) (fun h105 => ?_) (fun h105 => ?_)
                    · refine lv_iload_n hx hb dX6_findNext_113 rfl (lv_at hl 4 rfl) ?_
                      refine lv_istore_n (lv' := [(3, .int (oS z19)), (2, .int (oF z19)), (6, .int 0), (5, .int (nI k19)), (4, .int (nI k7)), (0, .ref (a 0)), (1, .int bs)]) hx hb dX6_findNext_114 rfl hl (by decide) rfl (fun ls hl => ?_)
                      refine lv_iinc (v := nI (k19 + 1)) (lv' := [(5, .int (nI (k19 + 1))), (3, .int (oS z19)), (2, .int (oF z19)), (6, .int 0), (4, .int (nI k7)), (0, .ref (a 0)), (1, .int bs)]) hx hb dX6_findNext_115 hl (k := 3) rfl (by first | rfl | exact nI_add _ _) (by decide) rfl (fun ls hl => ?_)
                      refine lv_goto (tgt := 19) hx hb dX6_findNext_118 (by decide) ?_
                      exact ih19 z19 ((if_neg (fun w => h81 (of_decide_eq_true (by have q := w.2.2; rw [hd1] at q; exact q)))).symm) (hI19) ls (lv_sub hl [0, 4, 1, 2, 5, 6] rfl)
                    · exact absurd h105 (by decide)
                  · exact absurd h93 (by decide)
                · refine lv_iconst (v := 1) hx hb dX6_findNext_84 (by decide) ?_
                  refine lv_goto (tgt := 89) hx hb dX6_findNext_85 (by decide) ?_
                  refine lv_istore (lv' := [(6, .int 1), (5, .int (nI k19)), (4, .int (nI k7)), (3, .int (oS z19)), (2, .int (oF z19)), (0, .ref (a 0)), (1, .int bs)]) hx hb dX6_findNext_89 hl (by decide) rfl (fun ls hl => ?_)
                  refine lv_iload hx hb dX6_findNext_91 (lv_at hl 0 rfl) ?_
                  refine rz_eq (tgt := 101) hx hb 1 rfl (by omega) dX6_findNext_93 (by decide) (fun h93 => ?_) (fun h93 => ?_)
                  · exact absurd h93 (by decide)
                  · refine lv_iload hx hb dX6_findNext_96 (lv_at hl 2 rfl) ?_
                    refine lv_goto (tgt := 102) hx hb dX6_findNext_98 (by decide) ?_
                    refine lv_istore_n (lv' := [(2, .int (nI k7)), (6, .int 1), (5, .int (nI k19)), (4, .int (nI k7)), (3, .int (oS z19)), (0, .ref (a 0)), (1, .int bs)]) hx hb dX6_findNext_102 rfl hl (by decide) rfl (fun ls hl => ?_)
                    refine lv_iload hx hb dX6_findNext_103 (lv_at hl 1 rfl) ?_
                    refine rz_eq (tgt := 113) hx hb 1 rfl (by omega) dX6_findNext_105 (by decide) (fun h105 => ?_) (fun h105 => ?_)
                    · exact absurd h105 (by decide)
                    · refine lv_iload hx hb dX6_findNext_108 (lv_at hl 2 rfl) ?_
                      refine lv_goto (tgt := 114) hx hb dX6_findNext_110 (by decide) ?_
                      refine lv_istore_n (lv' := [(3, .int (nI k19)), (2, .int (nI k7)), (6, .int 1), (5, .int (nI k19)), (4, .int (nI k7)), (0, .ref (a 0)), (1, .int bs)]) hx hb dX6_findNext_114 rfl hl (by decide) rfl (fun ls hl => ?_)
                      refine lv_iinc (v := nI (k19 + 1)) (lv' := [(5, .int (nI (k19 + 1))), (3, .int (nI k19)), (2, .int (nI k7)), (6, .int 1), (4, .int (nI k7)), (0, .ref (a 0)), (1, .int bs)]) hx hb dX6_findNext_115 hl (k := 3) rfl (by first | rfl | exact nI_add _ _) (by decide) rfl (fun ls hl => ?_)
                      refine lv_goto (tgt := 19) hx hb dX6_findNext_118 (by decide) ?_
                      exact ih19 (some (k7, k19)) ((if_pos ⟨h36, (by rw [hcu0]; rfl), (by rw [hd1]; exact decide_eq_true h81)⟩).symm) (fun d h => (by cases h; exact ⟨by omega, by omega⟩)) ls (lv_sub hl [0, 4, 1, 2, 5, 6] rfl)
            · obtain ⟨d0, hd0⟩ := oF_pos h43
              have hb0 := hcu d0 hd0
              refine lv_aload_n hx hb dX6_findNext_46 rfl (lv_at hl 4 rfl) ?_
              refine lv_aload_n hx hb dX6_findNext_47 rfl (lv_at hl 4 rfl) ?_
              refine va_get (D := (dC, dI)) (ci := 6) (v := .int M.2.2.2.1) (C := RX6) (T := TX6) (N := 18) hx hb hts (by decide +kernel) hown hK hP 0 rfl rfl 14 (by decide) (hts (.fieldLink RX6 168 "AchromatDeskModel" "one" "I") (by decide +kernel)) (fun _ h9 => h9) rfl dX6_findNext_48 ?_
              refine rw_topi (show (M.2.2.2.1 : Int32) = (nI d0.1 : Int32) from by rw [hcf, hd0]; rfl) ?_
              refine lv_aload_n hx hb dX6_findNext_51 rfl (lv_at hl 4 rfl) ?_
              refine va_get (D := (dC, dI)) (ci := 6) (v := .int M.2.2.2.2.1) (C := RX6) (T := TX6) (N := 18) hx hb hts (by decide +kernel) hown hK hP 0 rfl rfl 15 (by decide) (hts (.fieldLink RX6 171 "AchromatDeskModel" "other" "I") (by decide +kernel)) (fun _ h9 => h9) rfl dX6_findNext_52 ?_
              refine rw_topi (show (M.2.2.2.2.1 : Int32) = (nI d0.2 : Int32) from hb0.2.2) ?_
              refine lv_iload hx hb dX6_findNext_55 (lv_at hl 1 rfl) ?_
              refine lv_iload hx hb dX6_findNext_57 (lv_at hl 0 rfl) ?_
              refine lv_iload_n hx hb dX6_findNext_59 rfl (lv_at hl 5 rfl) ?_
              refine roVi (As := [.int (nI d0.1), .int (nI d0.2), .int (nI k7), .int (nI k19), .int bs]) (rest := []) (c_X6_isBefore l dC dI cI cJ a bf ln (by omega) G n (by omega) lg lp k (by omega) rd np (by omega) M hG hL hR d0.1 d0.2 k7 k19 (by omega) (by omega) (by omega) (by omega) bs) ⟨hx, hb, hml, hown, hts⟩ (cwV 5 hts gX6_findNext_X6_isBefore rfl rfl rfl (by decide +kernel) ⟨Nat.le_of_ble_eq_true rfl, Nat.le_of_ble_eq_true rfl⟩) (hP.sub [0, 1, 2, 3, 4, 5, 6, 7, 8] rfl) hK hN (ci := 6) rfl rfl rfl hl.1 rfl (Nat.le_of_ble_eq_true rfl) dX6_findNext_60 ⟨Nat.zero_le _, Nat.zero_le _⟩ (fun r hr0 => ?_)
              subst hr0
              refine rb_eq (tgt := 88) hx hb dX6_findNext_63 (by decide) (fun h63 => ?_) (fun h63 => ?_)
              · refine lv_iconst (v := 0) hx hb dX6_findNext_88 (by decide) ?_
                refine lv_istore (lv' := [(6, .int 0), (5, .int (nI k19)), (4, .int (nI k7)), (3, .int (oS z19)), (2, .int (oF z19)), (0, .ref (a 0)), (1, .int bs)]) hx hb dX6_findNext_89 hl (by decide) rfl (fun ls hl => ?_)
                refine lv_iload hx hb dX6_findNext_91 (lv_at hl 0 rfl) ?_
                refine rz_eq (tgt := 101) hx hb 0 rfl (by omega) dX6_findNext_93 (by decide) (fun h93 => ?_) (fun h93 => ?_)
                · refine lv_iload_n hx hb dX6_findNext_101 rfl (lv_at hl 4 rfl) ?_
                  refine lv_istore_n (lv' := [(2, .int (oF z19)), (6, .int 0), (5, .int (nI k19)), (4, .int (nI k7)), (3, .int (oS z19)), (0, .ref (a 0)), (1, .int bs)]) hx hb dX6_findNext_102 rfl hl (by decide) rfl (fun ls hl => ?_)
                  refine lv_iload hx hb dX6_findNext_103 (lv_at hl 1 rfl) ?_
                  refine rz_eq (tgt := 113) hx hb 0 rfl (by omega) dX6_findNext_105 (by decide) (fun h105 => ?_) (fun h105 => ?_)
                  · refine lv_iload_n hx hb dX6_findNext_113 rfl (lv_at hl 4 rfl) ?_
                    refine lv_istore_n (lv' := [(3, .int (oS z19)), (2, .int (oF z19)), (6, .int 0), (5, .int (nI k19)), (4, .int (nI k7)), (0, .ref (a 0)), (1, .int bs)]) hx hb dX6_findNext_114 rfl hl (by decide) rfl (fun ls hl => ?_)
                    refine lv_iinc (v := nI (k19 + 1)) (lv' := [(5, .int (nI (k19 + 1))), (3, .int (oS z19)), (2, .int (oF z19)), (6, .int 0), (4, .int (nI k7)), (0, .ref (a 0)), (1, .int bs)]) hx hb dX6_findNext_115 hl (k := 3) rfl (by first | rfl | exact nI_add _ _) (by decide) rfl (fun ls hl => ?_)
                    refine lv_goto (tgt := 19) hx hb dX6_findNext_118 (by decide) ?_
                    exact ih19 z19 ((if_neg (fun w => h63 (of_decide_eq_true (by have q := w.2.1; rw [hd0] at q; exact q)))).symm) (hI19) ls (lv_sub hl [0, 4, 1, 2, 5, 6] rfl)
                  · exact absurd h105 (by decide)
                · exact absurd h93 (by decide)
              · refine lv_iload_n hx hb dX6_findNext_66 rfl (lv_at hl 3 rfl) ?_
                refine lv_if_lt (tgt := 84) hx hb dX6_findNext_67 (by decide) (fun h67 => ?_) (fun h67 => ?_)
                · have hz0 : z19 = none := oF_neg hn (fun d hd => (hI19 d hd).1) h67
                  refine lv_iconst (v := 1) hx hb dX6_findNext_84 (by decide) ?_
                  refine lv_goto (tgt := 89) hx hb dX6_findNext_85 (by decide) ?_
                  refine lv_istore (lv' := [(6, .int 1), (5, .int (nI k19)), (4, .int (nI k7)), (3, .int (oS z19)), (2, .int (oF z19)), (0, .ref (a 0)), (1, .int bs)]) hx hb dX6_findNext_89 hl (by decide) rfl (fun ls hl => ?_)
                  refine lv_iload hx hb dX6_findNext_91 (lv_at hl 0 rfl) ?_
                  refine rz_eq (tgt := 101) hx hb 1 rfl (by omega) dX6_findNext_93 (by decide) (fun h93 => ?_) (fun h93 => ?_)
                  · exact absurd h93 (by decide)
                  · refine lv_iload hx hb dX6_findNext_96 (lv_at hl 2 rfl) ?_
                    refine lv_goto (tgt := 102) hx hb dX6_findNext_98 (by decide) ?_
                    refine lv_istore_n (lv' := [(2, .int (nI k7)), (6, .int 1), (5, .int (nI k19)), (4, .int (nI k7)), (3, .int (oS z19)), (0, .ref (a 0)), (1, .int bs)]) hx hb dX6_findNext_102 rfl hl (by decide) rfl (fun ls hl => ?_)
                    refine lv_iload hx hb dX6_findNext_103 (lv_at hl 1 rfl) ?_
                    refine rz_eq (tgt := 113) hx hb 1 rfl (by omega) dX6_findNext_105 (by decide) (fun h105 => ?_) (fun h105 => ?_)
                    · exact absurd h105 (by decide)
                    · refine lv_iload hx hb dX6_findNext_108 (lv_at hl 2 rfl) ?_
                      refine lv_goto (tgt := 114) hx hb dX6_findNext_110 (by decide) ?_
                      refine lv_istore_n (lv' := [(3, .int (nI k19)), (2, .int (nI k7)), (6, .int 1), (5, .int (nI k19)), (4, .int (nI k7)), (0, .ref (a 0)), (1, .int bs)]) hx hb dX6_findNext_114 rfl hl (by decide) rfl (fun ls hl => ?_)
                      refine lv_iinc (v := nI (k19 + 1)) (lv' := [(5, .int (nI (k19 + 1))), (3, .int (nI k19)), (2, .int (nI k7)), (6, .int 1), (4, .int (nI k7)), (0, .ref (a 0)), (1, .int bs)]) hx hb dX6_findNext_115 hl (k := 3) rfl (by first | rfl | exact nI_add _ _) (by decide) rfl (fun ls hl => ?_)
                      refine lv_goto (tgt := 19) hx hb dX6_findNext_118 (by decide) ?_
                      exact ih19 (some (k7, k19)) ((if_pos ⟨h36, (by rw [hd0]; exact decide_eq_true h63), (by rw [hz0]; rfl)⟩).symm) (fun d h => (by cases h; exact ⟨by omega, by omega⟩)) ls (lv_sub hl [0, 4, 1, 2, 5, 6] rfl)
                · obtain ⟨d1, hd1⟩ := oF_pos h67
                  have hb1 := hI19 d1 hd1
                  refine lv_aload_n hx hb dX6_findNext_70 rfl (lv_at hl 4 rfl) ?_
                  refine lv_iload hx hb dX6_findNext_71 (lv_at hl 1 rfl) ?_
                  refine lv_iload hx hb dX6_findNext_73 (lv_at hl 0 rfl) ?_
                  refine lv_iload_n hx hb dX6_findNext_75 rfl (lv_at hl 3 rfl) ?_
                  refine rw_topi (show (oF z19 : Int32) = (nI d1.1 : Int32) from by rw [hd1]; rfl) ?_
                  refine lv_iload_n hx hb dX6_findNext_76 rfl (lv_at hl 2 rfl) ?_
                  refine rw_topi (show (oS z19 : Int32) = (nI d1.2 : Int32) from by rw [hd1]; rfl) ?_
                  refine lv_iload_n hx hb dX6_findNext_77 rfl (lv_at hl 5 rfl) ?_
                  refine roVi (As := [.int (nI k7), .int (nI k19), .int (nI d1.1), .int (nI d1.2), .int bs]) (rest := []) (c_X6_isBefore l dC dI cI cJ a bf ln (by omega) G n (by omega) lg lp k (by omega) rd np (by omega) M hG hL hR k7 k19 d1.1 d1.2 (by omega) (by omega) (by omega) (by omega) bs) ⟨hx, hb, hml, hown, hts⟩ (cwV 5 hts gX6_findNext_X6_isBefore rfl rfl rfl (by decide +kernel) ⟨Nat.le_of_ble_eq_true rfl, Nat.le_of_ble_eq_true rfl⟩) (hP.sub [0, 1, 2, 3, 4, 5, 6, 7, 8] rfl) hK hN (ci := 6) rfl rfl rfl hl.1 rfl (Nat.le_of_ble_eq_true rfl) dX6_findNext_78 ⟨Nat.zero_le _, Nat.zero_le _⟩ (fun r hr0 => ?_)
                  subst hr0
                  refine rb_eq (tgt := 88) hx hb dX6_findNext_81 (by decide) (fun h81 => ?_) (fun h81 => ?_)
                  · refine lv_iconst (v := 0) hx hb dX6_findNext_88 (by decide) ?_
                    refine lv_istore (lv' := [(6, .int 0), (5, .int (nI k19)), (4, .int (nI k7)), (3, .int (oS z19)), (2, .int (oF z19)), (0, .ref (a 0)), (1, .int bs)]) hx hb dX6_findNext_89 hl (by decide) rfl (fun ls hl => ?_)
                    refine lv_iload hx hb dX6_findNext_91 (lv_at hl 0 rfl) ?_
                    refine rz_eq (tgt := 101) hx hb 0 rfl (by omega) dX6_findNext_93 (by decide) (fun h93 => ?_) (fun h93 => ?_)
                    · refine lv_iload_n hx hb dX6_findNext_101 rfl (lv_at hl 4 rfl) ?_
                      refine lv_istore_n (lv' := [(2, .int (oF z19)), (6, .int 0), (5, .int (nI k19)), (4, .int (nI k7)), (3, .int (oS z19)), (0, .ref (a 0)), (1, .int bs)]) hx hb dX6_findNext_102 rfl hl (by decide) rfl (fun ls hl => ?_)
                      refine lv_iload hx hb dX6_findNext_103 (lv_at hl 1 rfl) ?_
                      refine rz_eq (tgt := 113) hx hb 0 rfl (by omega) dX6_findNext_105 (by decide) (fun h105 => ?_) (fun h105 => ?_)
                      · refine lv_iload_n hx hb dX6_findNext_113 rfl (lv_at hl 4 rfl) ?_
                        refine lv_istore_n (lv' := [(3, .int (oS z19)), (2, .int (oF z19)), (6, .int 0), (5, .int (nI k19)), (4, .int (nI k7)), (0, .ref (a 0)), (1, .int bs)]) hx hb dX6_findNext_114 rfl hl (by decide) rfl (fun ls hl => ?_)
                        refine lv_iinc (v := nI (k19 + 1)) (lv' := [(5, .int (nI (k19 + 1))), (3, .int (oS z19)), (2, .int (oF z19)), (6, .int 0), (4, .int (nI k7)), (0, .ref (a 0)), (1, .int bs)]) hx hb dX6_findNext_115 hl (k := 3) rfl (by first | rfl | exact nI_add _ _) (by decide) rfl (fun ls hl => ?_)
                        refine lv_goto (tgt := 19) hx hb dX6_findNext_118 (by decide) ?_
                        exact ih19 z19 ((if_neg (fun w => h81 (of_decide_eq_true (by have q := w.2.2; rw [hd1] at q; exact q)))).symm) (hI19) ls (lv_sub hl [0, 4, 1, 2, 5, 6] rfl)
                      · exact absurd h105 (by decide)
                    · exact absurd h93 (by decide)
                  · refine lv_iconst (v := 1) hx hb dX6_findNext_84 (by decide) ?_
                    refine lv_goto (tgt := 89) hx hb dX6_findNext_85 (by decide) ?_
                    refine lv_istore (lv' := [(6, .int 1), (5, .int (nI k19)), (4, .int (nI k7)), (3, .int (oS z19)), (2, .int (oF z19)), (0, .ref (a 0)), (1, .int bs)]) hx hb dX6_findNext_89 hl (by decide) rfl (fun ls hl => ?_)
                    refine lv_iload hx hb dX6_findNext_91 (lv_at hl 0 rfl) ?_
                    refine rz_eq (tgt := 101) hx hb 1 rfl (by omega) dX6_findNext_93 (by decide) (fun h93 => ?_) (fun h93 => ?_)
                    · exact absurd h93 (by decide)
                    · refine lv_iload hx hb dX6_findNext_96 (lv_at hl 2 rfl) ?_
                      refine lv_goto (tgt := 102) hx hb dX6_findNext_98 (by decide) ?_
                      refine lv_istore_n (lv' := [(2, .int (nI k7)), (6, .int 1), (5, .int (nI k19)), (4, .int (nI k7)), (3, .int (oS z19)), (0, .ref (a 0)), (1, .int bs)]) hx hb dX6_findNext_102 rfl hl (by decide) rfl (fun ls hl => ?_)
                      refine lv_iload hx hb dX6_findNext_103 (lv_at hl 1 rfl) ?_
                      refine rz_eq (tgt := 113) hx hb 1 rfl (by omega) dX6_findNext_105 (by decide) (fun h105 => ?_) (fun h105 => ?_)
                      · exact absurd h105 (by decide)
                      · refine lv_iload hx hb dX6_findNext_108 (lv_at hl 2 rfl) ?_
                        refine lv_goto (tgt := 114) hx hb dX6_findNext_110 (by decide) ?_
                        refine lv_istore_n (lv' := [(3, .int (nI k19)), (2, .int (nI k7)), (6, .int 1), (5, .int (nI k19)), (4, .int (nI k7)), (0, .ref (a 0)), (1, .int bs)]) hx hb dX6_findNext_114 rfl hl (by decide) rfl (fun ls hl => ?_)
                        refine lv_iinc (v := nI (k19 + 1)) (lv' := [(5, .int (nI (k19 + 1))), (3, .int (nI k19)), (2, .int (nI k7)), (6, .int 1), (4, .int (nI k7)), (0, .ref (a 0)), (1, .int bs)]) hx hb dX6_findNext_115 hl (k := 3) rfl (by first | rfl | exact nI_add _ _) (by decide) rfl (fun ls hl => ?_)
                        refine lv_goto (tgt := 19) hx hb dX6_findNext_118 (by decide) ?_
                        exact ih19 (some (k7, k19)) ((if_pos ⟨h36, (by rw [hd0]; exact decide_eq_true h63), (by rw [hd1]; exact decide_eq_true h81)⟩).symm) (fun d h => (by cases h; exact ⟨by omega, by omega⟩)) ls (lv_sub hl [0, 4, 1, 2, 5, 6] rfl)
      · refine lv_iload hx hb dX6_findNext_19 (lv_at hl 0 rfl) ?_
        refine lv_aload_n hx hb dX6_findNext_21 rfl (lv_at hl 4 rfl) ?_
        refine va_get (D := (dC, dI)) (ci := 6) (v := .int (nI n)) (C := RX6) (T := TX6) (N := 18) hx hb hts (by decide +kernel) hown hK hP 0 rfl rfl 2 (by decide) (hts (.fieldLink RX6 35 "AchromatDeskModel" "glasses" "I") (by decide +kernel)) (fun _ h9 => h9) rfl dX6_findNext_22 ?_
        refine rn_ge (tgt := 121) hx hb n n rfl rfl (by omega) (by omega) dX6_findNext_25 (by decide) (fun h25 => ?_) (fun h25 => ?_)
        · refine lv_iinc (v := nI (k7 + 1)) (lv' := [(4, .int (nI (k7 + 1))), (5, .int (nI n)), (3, .int (oS z19)), (2, .int (oF z19)), (0, .ref (a 0)), (1, .int bs)]) hx hb dX6_findNext_121 hl (k := 1) rfl (by first | rfl | exact nI_add _ _) (by decide) rfl (fun ls hl => ?_)
          refine lv_goto (tgt := 7) hx hb dX6_findNext_124 (by decide) ?_
          exact ih7 z19 (hz19) (hI19) ls (lv_sub hl [0, 2, 3, 4, 5] rfl)
        · exfalso; omega
  · have hz7b : z7 = nxF G n bs cu := hz7
    refine lv_iload hx hb dX6_findNext_7 (lv_at hl 0 rfl) ?_
    refine lv_aload_n hx hb dX6_findNext_9 rfl (lv_at hl 3 rfl) ?_
    refine va_get (D := (dC, dI)) (ci := 6) (v := .int (nI n)) (C := RX6) (T := TX6) (N := 18) hx hb hts (by decide +kernel) hown hK hP 0 rfl rfl 2 (by decide) (hts (.fieldLink RX6 35 "AchromatDeskModel" "glasses" "I") (by decide +kernel)) (fun _ h9 => h9) rfl dX6_findNext_10 ?_
    refine rn_ge (tgt := 127) hx hb n n rfl rfl (by omega) (by omega) dX6_findNext_13 (by decide) (fun h13 => ?_) (fun h13 => ?_)
    · refine lv_aload_n hx hb dX6_findNext_127 rfl (lv_at hl 3 rfl) ?_
      refine lv_iload_n hx hb dX6_findNext_128 rfl (lv_at hl 2 rfl) ?_
      refine va_put (D := (dC, dI)) (ci := 6) (v := .int (oF z7)) (ty := .int) (C := RX6) (T := TX6) (N := 18) hx hb hts (by decide +kernel) tyX6 tyX6_ok nmX6 hown hK hP hD hS 0 rfl rfl 14 (by decide) (hts (.fieldLink RX6 168 "AchromatDeskModel" "one" "I") (by decide +kernel)) (fun _ h9 => h9) rfl (by decide +kernel) rfl rfl (Nat.le_of_ble_eq_true rfl) dX6_findNext_129 (fun H locs hP hD hS => ?_)
      have hP : va_P (dC, dI) vwCl [(a 0, .inr (6, [.int (nI ln), .ref (a 1), .int (nI n), .ref (a 2), .ref (a 3), .int (nI k), .ref (a 4), .ref (a 5), .int (nI np), .ref (a 6), .long M.1, .ref (a 7), .int M.2.1, .int M.2.2.1, .int (oF z7), .int M.2.2.2.2.1, .ref (a 8), .long M.2.2.2.2.2.1])), (a 1, .inl (cI, 28, .inl bf)), (a 2, .inl (cJ, 20, .inr (.inl (gK G)))), (a 3, .inl (cI, 60, .inl (ilv G))), (a 4, .inl (cI, 8, .inl lg)), (a 5, .inl (cI, 8, .inl lp)), (a 6, .inl (cI, 16, .inl rd)), (a 7, .inl (cI, 3, .inl M.2.2.2.2.2.2.1)), (a 8, .inl (cJ, 3, .inr (.inl M.2.2.2.2.2.2.2)))] H := hP
      have hD : va_D A [(a 0, .inr (6, [.int (nI ln), .ref (a 1), .int (nI n), .ref (a 2), .ref (a 3), .int (nI k), .ref (a 4), .ref (a 5), .int (nI np), .ref (a 6), .long M.1, .ref (a 7), .int M.2.1, .int M.2.2.1, .int (oF z7), .int M.2.2.2.2.1, .ref (a 8), .long M.2.2.2.2.2.1])), (a 1, .inl (cI, 28, .inl bf)), (a 2, .inl (cJ, 20, .inr (.inl (gK G)))), (a 3, .inl (cI, 60, .inl (ilv G))), (a 4, .inl (cI, 8, .inl lg)), (a 5, .inl (cI, 8, .inl lp)), (a 6, .inl (cI, 16, .inl rd)), (a 7, .inl (cI, 3, .inl M.2.2.2.2.2.2.1)), (a 8, .inl (cJ, 3, .inr (.inl M.2.2.2.2.2.2.2)))] := hD
      refine lv_aload_n hx hb dX6_findNext_132 rfl (lv_at hl 3 rfl) ?_
      refine lv_iload_n hx hb dX6_findNext_133 rfl (lv_at hl 1 rfl) ?_
      refine va_put (D := (dC, dI)) (ci := 6) (v := .int (oS z7)) (ty := .int) (C := RX6) (T := TX6) (N := 18) hx hb hts (by decide +kernel) tyX6 tyX6_ok nmX6 hown hK hP hD hS 0 rfl rfl 15 (by decide) (hts (.fieldLink RX6 171 "AchromatDeskModel" "other" "I") (by decide +kernel)) (fun _ h9 => h9) rfl (by decide +kernel) rfl rfl (Nat.le_of_ble_eq_true rfl) dX6_findNext_134 (fun H locs hP hD hS => ?_)
      have hP : va_P (dC, dI) vwCl [(a 0, .inr (6, [.int (nI ln), .ref (a 1), .int (nI n), .ref (a 2), .ref (a 3), .int (nI k), .ref (a 4), .ref (a 5), .int (nI np), .ref (a 6), .long M.1, .ref (a 7), .int M.2.1, .int M.2.2.1, .int (oF z7), .int (oS z7), .ref (a 8), .long M.2.2.2.2.2.1])), (a 1, .inl (cI, 28, .inl bf)), (a 2, .inl (cJ, 20, .inr (.inl (gK G)))), (a 3, .inl (cI, 60, .inl (ilv G))), (a 4, .inl (cI, 8, .inl lg)), (a 5, .inl (cI, 8, .inl lp)), (a 6, .inl (cI, 16, .inl rd)), (a 7, .inl (cI, 3, .inl M.2.2.2.2.2.2.1)), (a 8, .inl (cJ, 3, .inr (.inl M.2.2.2.2.2.2.2)))] H := hP
      have hD : va_D A [(a 0, .inr (6, [.int (nI ln), .ref (a 1), .int (nI n), .ref (a 2), .ref (a 3), .int (nI k), .ref (a 4), .ref (a 5), .int (nI np), .ref (a 6), .long M.1, .ref (a 7), .int M.2.1, .int M.2.2.1, .int (oF z7), .int (oS z7), .ref (a 8), .long M.2.2.2.2.2.1])), (a 1, .inl (cI, 28, .inl bf)), (a 2, .inl (cJ, 20, .inr (.inl (gK G)))), (a 3, .inl (cI, 60, .inl (ilv G))), (a 4, .inl (cI, 8, .inl lg)), (a 5, .inl (cI, 8, .inl lp)), (a 6, .inl (cI, 16, .inl rd)), (a 7, .inl (cI, 3, .inl M.2.2.2.2.2.2.1)), (a 8, .inl (cJ, 3, .inr (.inl M.2.2.2.2.2.2.2)))] := hD
      exact W.vret hx hb hr (fun t ht hW => ⟨⟨(), rfl, trivial, by rw [ht]; exact (by rw [← hz7b]; exact hP), by rw [hAe]; exact (by rw [← hz7b]; exact hD)⟩, hS.F ht⟩) hS.2.2 dX6_findNext_137
    · exfalso; omega

set_option maxHeartbeats 4000000 in
set_option maxRecDepth 100000 in
theorem c_X6_doubletNow (l : Launch) (dC : Nat → ClassId) (dI : Nat → Nat → Nat) (cI cJ : ClassId) (sz : Nat) (a : Nat → Nat) (bf : Nat → Int32) (ln : Nat) (hln : ln ≤ 28) (G : GL) (n : Nat) (hn : n ≤ 20) (lg lp : Nat → Int32) (k : Nat) (hk : k ≤ 8) (rd : Nat → Int32) (np : Nat) (hp : np ≤ 16) (M : MS) (hG : gOK G n) (hL : lOK lg k n) (hR : rOK rd np) (bs x : Int32) : Met l yX6_doubletNow wsX6_doubletNow ({ frames := 4, cells := 0, slots := 0, locals := 102 }) (va_Pc [.ref (a 0), .int bs, .int x] (MU (dC, dI) (tyK cI cJ) ([(a 0, .inr (6, [.int (nI ln), .ref (a 1), .int (nI n), .ref (a 2), .ref (a 3), .int (nI k), .ref (a 4), .ref (a 5), .int (nI np), .ref (a 6), .long M.1, .ref (a 7), .int M.2.1, .int M.2.2.1, .int M.2.2.2.1, .int M.2.2.2.2.1, .ref (a 8), .long M.2.2.2.2.2.1])), (a 1, .inl (cI, 28, .inl bf)), (a 2, .inl (cJ, 20, .inr (.inl (gK G)))), (a 3, .inl (cI, 60, .inl (ilv G))), (a 4, .inl (cI, 8, .inl lg)), (a 5, .inl (cI, 8, .inl lp)), (a 6, .inl (cI, 16, .inl rd)), (a 7, .inl (cI, 3, .inl M.2.2.2.2.2.2.1)), (a 8, .inl (cJ, 3, .inr (.inl M.2.2.2.2.2.2.2)))]) sz)) (va_Ql (fun r (_ : MS) => r = sDA G n bs x) (MB (dC, dI) ([(a 0, .inr (6, [.int (nI ln), .ref (a 1), .int (nI n), .ref (a 2), .ref (a 3), .int (nI k), .ref (a 4), .ref (a 5), .int (nI np), .ref (a 6), .long M.1, .ref (a 7), .int M.2.1, .int M.2.2.1, .int M.2.2.2.1, .int M.2.2.2.2.1, .ref (a 8), .long M.2.2.2.2.2.1])), (a 1, .inl (cI, 28, .inl bf)), (a 2, .inl (cJ, 20, .inr (.inl (gK G)))), (a 3, .inl (cI, 60, .inl (ilv G))), (a 4, .inl (cI, 8, .inl lg)), (a 5, .inl (cI, 8, .inl lp)), (a 6, .inl (cI, 16, .inl rd)), (a 7, .inl (cI, 3, .inl M.2.2.2.2.2.2.1)), (a 8, .inl (cJ, 3, .inr (.inl M.2.2.2.2.2.2.2)))]) sz (fun (u : MS) => [(a 0, .inr (6, [.int (nI ln), .ref (a 1), .int (nI n), .ref (a 2), .ref (a 3), .int (nI k), .ref (a 4), .ref (a 5), .int (nI np), .ref (a 6), .long u.1, .ref (a 7), .int u.2.1, .int u.2.2.1, .int u.2.2.2.1, .int u.2.2.2.2.1, .ref (a 8), .long M.2.2.2.2.2.1])), (a 1, .inl (cI, 28, .inl bf)), (a 2, .inl (cJ, 20, .inr (.inl (gK G)))), (a 3, .inl (cI, 60, .inl (ilv G))), (a 4, .inl (cI, 8, .inl lg)), (a 5, .inl (cI, 8, .inl lp)), (a 6, .inl (cI, 16, .inl rd)), (a 7, .inl (cI, 3, .inl u.2.2.2.2.2.2.1)), (a 8, .inl (cJ, 3, .inr (.inl u.2.2.2.2.2.2.2)))])) (va_A ([(a 0, .inr (6, [.int (nI ln), .ref (a 1), .int (nI n), .ref (a 2), .ref (a 3), .int (nI k), .ref (a 4), .ref (a 5), .int (nI np), .ref (a 6), .long M.1, .ref (a 7), .int M.2.1, .int M.2.2.1, .int M.2.2.2.1, .int M.2.2.2.2.1, .ref (a 8), .long M.2.2.2.2.2.1])), (a 1, .inl (cI, 28, .inl bf)), (a 2, .inl (cJ, 20, .inr (.inl (gK G)))), (a 3, .inl (cI, 60, .inl (ilv G))), (a 4, .inl (cI, 8, .inl lg)), (a 5, .inl (cI, 8, .inl lp)), (a 6, .inl (cI, 16, .inl rd)), (a 7, .inl (cI, 3, .inl M.2.2.2.2.2.2.1)), (a 8, .inl (cJ, 3, .inr (.inl M.2.2.2.2.2.2.2)))]) sz)) 0 0 (va_A ([(a 0, .inr (6, [.int (nI ln), .ref (a 1), .int (nI n), .ref (a 2), .ref (a 3), .int (nI k), .ref (a 4), .ref (a 5), .int (nI np), .ref (a 6), .long M.1, .ref (a 7), .int M.2.1, .int M.2.2.1, .int M.2.2.2.1, .int M.2.2.2.2.1, .ref (a 8), .long M.2.2.2.2.2.1])), (a 1, .inl (cI, 28, .inl bf)), (a 2, .inl (cJ, 20, .inr (.inl (gK G)))), (a 3, .inl (cI, 60, .inl (ilv G))), (a 4, .inl (cI, 8, .inl lg)), (a 5, .inl (cI, 8, .inl lp)), (a 6, .inl (cI, 16, .inl rd)), (a 7, .inl (cI, 3, .inl M.2.2.2.2.2.2.1)), (a 8, .inl (cJ, 3, .inr (.inl M.2.2.2.2.2.2.2)))]) sz) := by
  refine Met.ofW (cc := cX6_doubletNow) (maxL := 4) (ret := (some .long)) (by decide) rfl ?_
  intro p e s m args below meth c s₁ B hml hv
  obtain ⟨rfl, hsz, hP, hK, hN, hD0⟩ := hv
  have hx := B.exec
  have hb := B.bytes
  have hr := B.returns
  have hts := atoms_spec (ws := wsX6_doubletNow) B.pre
  have hown : s.vm.findClass RX6 = some m.cls := findClass_of_methodNamed B.named
  have hlocks := B.notSynchronized
  subst hsz
  have hD := hD0.self (sz := s.heap.size)
  generalize hAe : va_A ([(a 0, .inr (6, [.int (nI ln), .ref (a 1), .int (nI n), .ref (a 2), .ref (a 3), .int (nI k), .ref (a 4), .ref (a 5), .int (nI np), .ref (a 6), .long M.1, .ref (a 7), .int M.2.1, .int M.2.2.1, .int M.2.2.2.1, .int M.2.2.2.2.1, .ref (a 8), .long M.2.2.2.2.2.1])), (a 1, .inl (cI, 28, .inl bf)), (a 2, .inl (cJ, 20, .inr (.inl (gK G)))), (a 3, .inl (cI, 60, .inl (ilv G))), (a 4, .inl (cI, 8, .inl lg)), (a 5, .inl (cI, 8, .inl lp)), (a 6, .inl (cI, 16, .inl rd)), (a 7, .inl (cI, 3, .inl M.2.2.2.2.2.2.1)), (a 8, .inl (cJ, 3, .inr (.inl M.2.2.2.2.2.2.2)))]) s.heap.size = A at hD ⊢
  have hA : ∀ q : Nat, s.heap.size ≤ q → A q := fun q h => by rw [← hAe]; exact Or.inr h
  have hS : va_S A s.heap s.heap [] := va_S.rf
  have hP : va_P (dC, dI) vwCl [(a 0, .inr (6, [.int (nI ln), .ref (a 1), .int (nI n), .ref (a 2), .ref (a 3), .int (nI k), .ref (a 4), .ref (a 5), .int (nI np), .ref (a 6), .long M.1, .ref (a 7), .int M.2.1, .int M.2.2.1, .int M.2.2.2.1, .int M.2.2.2.2.1, .ref (a 8), .long M.2.2.2.2.2.1])), (a 1, .inl (cI, 28, .inl bf)), (a 2, .inl (cJ, 20, .inr (.inl (gK G)))), (a 3, .inl (cI, 60, .inl (ilv G))), (a 4, .inl (cI, 8, .inl lg)), (a 5, .inl (cI, 8, .inl lp)), (a 6, .inl (cI, 16, .inl rd)), (a 7, .inl (cI, 3, .inl M.2.2.2.2.2.2.1)), (a 8, .inl (cJ, 3, .inr (.inl M.2.2.2.2.2.2.2)))] s.heap := hP
  have hD : va_D A [(a 0, .inr (6, [.int (nI ln), .ref (a 1), .int (nI n), .ref (a 2), .ref (a 3), .int (nI k), .ref (a 4), .ref (a 5), .int (nI np), .ref (a 6), .long M.1, .ref (a 7), .int M.2.1, .int M.2.2.1, .int M.2.2.2.1, .int M.2.2.2.2.1, .ref (a 8), .long M.2.2.2.2.2.1])), (a 1, .inl (cI, 28, .inl bf)), (a 2, .inl (cJ, 20, .inr (.inl (gK G)))), (a 3, .inl (cI, 60, .inl (ilv G))), (a 4, .inl (cI, 8, .inl lg)), (a 5, .inl (cI, 8, .inl lp)), (a 6, .inl (cI, 16, .inl rd)), (a 7, .inl (cI, 3, .inl M.2.2.2.2.2.2.1)), (a 8, .inl (cJ, 3, .inr (.inl M.2.2.2.2.2.2.2)))] := hD
  obtain ⟨H, hH⟩ : ∃ H : Heap, H = s.heap := ⟨_, rfl⟩
  obtain ⟨locs, hlc⟩ : ∃ locs : List Loc, locs = [] := ⟨_, rfl⟩
  have hl := lv_entry ([.ref (a 0), .int bs, .int x]) (n := 4) (Nat.le_of_ble_eq_true rfl)
  rw [lg_entry_eq]
  generalize (lg_sl ([.ref (a 0), .int bs, .int x]) ++ List.replicate (4 - (lg_sl ([.ref (a 0), .int bs, .int x])).length) Slot.unset).toArray = ls at hl ⊢
  have hl : lv_has ls 4 [(0, .ref (a 0)), (1, .int bs), (2, .int x)] := hl
  refine mu_in hH hlc (fun hS hP hD => ?_) hS hP hD
  clear hH hlc
  refine lv_iload_n hx hb dX6_doubletNow_0 rfl (lv_at hl 2 rfl) ?_
  refine lv_i2l (v := x.toInt64) hx hb dX6_doubletNow_1 rfl ?_
  refine lv_lconst (v := 0) hx hb dX6_doubletNow_2 (by decide) ?_
  refine lv_aload_n hx hb dX6_doubletNow_3 rfl (lv_at hl 0 rfl) ?_
  refine roVl (As := []) (rest := [.long 0, .long x.toInt64]) (c_X6_doublets l dC dI cI cJ a bf ln (by omega) G n (by omega) lg lp k (by omega) rd np (by omega) M hG hL hR ) ⟨hx, hb, hml, hown, hts⟩ (cwV 0 hts gX6_doubletNow_X6_doublets rfl rfl rfl (by decide +kernel) ⟨Nat.le_of_ble_eq_true rfl, Nat.le_of_ble_eq_true rfl⟩) (hP.sub [0, 1, 2, 3, 4, 5, 6, 7, 8] rfl) hK hN (ci := 6) rfl rfl rfl hl.1 rfl (Nat.le_of_ble_eq_true rfl) dX6_doubletNow_4 ⟨Nat.zero_le _, Nat.zero_le _⟩ (fun r hr0 => ?_)
  subst hr0
  have hc190 := cnt_le hG hn
  refine lv_lconst (v := 1) hx hb dX6_doubletNow_7 (by decide) ?_
  refine lv_lsub hx hb dX6_doubletNow_8 ?_
  refine stSi (As := [.long x.toInt64, .long 0, .long ((lN (cntD G n)) - 1)]) (rest := []) (c_X6_within l x.toInt64 0 ((lN (cntD G n)) - 1)) ⟨hx, hb, hml, hown, hts⟩ (va_cwS 3 hts gX6_doubletNow_X6_within rfl rfl rfl (by decide +kernel) ⟨Nat.le_of_ble_eq_true rfl, Nat.le_of_ble_eq_true rfl⟩) rfl hl.1 rfl (Nat.le_of_ble_eq_true rfl) dX6_doubletNow_9 ⟨Nat.zero_le _, Nat.zero_le _⟩ (fun r hr0 => ?_)
  subst hr0
  refine rb_ne (tgt := 19) hx hb dX6_doubletNow_12 (by decide) (fun h12 => ?_) (fun h12 => ?_)
  · have h12 := (w_cnt x (by omega)).mp h12
    obtain ⟨p0, hp0, ep0⟩ := hasP_ex (by omega) h12
    subst ep0
    refine lv_aload_n hx hb dX6_doubletNow_19 rfl (lv_at hl 0 rfl) ?_
    refine lv_iconst (v := (-1)) hx hb dX6_doubletNow_20 (by decide) ?_
    refine va_put (D := (dC, dI)) (ci := 6) (v := .int (-1)) (ty := .int) (C := RX6) (T := TX6) (N := 18) hx hb hts (by decide +kernel) tyX6 tyX6_ok nmX6 hown hK hP hD hS 0 rfl rfl 14 (by decide) (hts (.fieldLink RX6 168 "AchromatDeskModel" "one" "I") (by decide +kernel)) (fun _ h9 => h9) rfl (by decide +kernel) rfl rfl (Nat.le_of_ble_eq_true rfl) dX6_doubletNow_21 (fun H locs hP hD hS => ?_)
    have hP : va_P (dC, dI) vwCl [(a 0, .inr (6, [.int (nI ln), .ref (a 1), .int (nI n), .ref (a 2), .ref (a 3), .int (nI k), .ref (a 4), .ref (a 5), .int (nI np), .ref (a 6), .long M.1, .ref (a 7), .int M.2.1, .int M.2.2.1, .int (-1), .int M.2.2.2.2.1, .ref (a 8), .long M.2.2.2.2.2.1])), (a 1, .inl (cI, 28, .inl bf)), (a 2, .inl (cJ, 20, .inr (.inl (gK G)))), (a 3, .inl (cI, 60, .inl (ilv G))), (a 4, .inl (cI, 8, .inl lg)), (a 5, .inl (cI, 8, .inl lp)), (a 6, .inl (cI, 16, .inl rd)), (a 7, .inl (cI, 3, .inl M.2.2.2.2.2.2.1)), (a 8, .inl (cJ, 3, .inr (.inl M.2.2.2.2.2.2.2)))] H := hP
    have hD : va_D A [(a 0, .inr (6, [.int (nI ln), .ref (a 1), .int (nI n), .ref (a 2), .ref (a 3), .int (nI k), .ref (a 4), .ref (a 5), .int (nI np), .ref (a 6), .long M.1, .ref (a 7), .int M.2.1, .int M.2.2.1, .int (-1), .int M.2.2.2.2.1, .ref (a 8), .long M.2.2.2.2.2.1])), (a 1, .inl (cI, 28, .inl bf)), (a 2, .inl (cJ, 20, .inr (.inl (gK G)))), (a 3, .inl (cI, 60, .inl (ilv G))), (a 4, .inl (cI, 8, .inl lg)), (a 5, .inl (cI, 8, .inl lp)), (a 6, .inl (cI, 16, .inl rd)), (a 7, .inl (cI, 3, .inl M.2.2.2.2.2.2.1)), (a 8, .inl (cJ, 3, .inr (.inl M.2.2.2.2.2.2.2)))] := hD
    refine lv_iconst (v := 0) hx hb dX6_doubletNow_24 (by decide) ?_
    refine lv_istore_n (lv' := [(3, .int 0), (0, .ref (a 0)), (1, .int bs), (2, .int (nI p0))]) hx hb dX6_doubletNow_25 rfl hl (by decide) rfl (fun ls hl => ?_)
    refine rloopW (nL := 4) (D := (dC, dI)) (cl := vwCl) (A := A) 0 (p0 + 1) (sqF G n bs) ((none : Option (Nat × Nat)), M.2.2.2.2.1) (fun k26 z26 => [(a 0, .inr (6, [.int (nI ln), .ref (a 1), .int (nI n), .ref (a 2), .ref (a 3), .int (nI k), .ref (a 4), .ref (a 5), .int (nI np), .ref (a 6), .long M.1, .ref (a 7), .int M.2.1, .int M.2.2.1, .int (oF z26.1), .int z26.2, .ref (a 8), .long M.2.2.2.2.2.1])), (a 1, .inl (cI, 28, .inl bf)), (a 2, .inl (cJ, 20, .inr (.inl (gK G)))), (a 3, .inl (cI, 60, .inl (ilv G))), (a 4, .inl (cI, 8, .inl lg)), (a 5, .inl (cI, 8, .inl lp)), (a 6, .inl (cI, 16, .inl rd)), (a 7, .inl (cI, 3, .inl M.2.2.2.2.2.2.1)), (a 8, .inl (cJ, 3, .inr (.inl M.2.2.2.2.2.2.2)))]) (fun k26 z26 => [(3, .int (nI k26)), (0, .ref (a 0)), (1, .int bs), (2, .int (nI p0))]) (fun _ z => ∀ d, z.1 = some d → d.1 < n ∧ d.2 < n ∧ z.2 = nI d.2) (by omega) (fun d h => (by cases h)) (show va_P (dC, dI) vwCl [(a 0, .inr (6, [.int (nI ln), .ref (a 1), .int (nI n), .ref (a 2), .ref (a 3), .int (nI k), .ref (a 4), .ref (a 5), .int (nI np), .ref (a 6), .long M.1, .ref (a 7), .int M.2.1, .int M.2.2.1, .int (oF ((none : Option (Nat × Nat)), M.2.2.2.2.1).1), .int (((none : Option (Nat × Nat)), M.2.2.2.2.1).2), .ref (a 8), .long M.2.2.2.2.2.1])), (a 1, .inl (cI, 28, .inl bf)), (a 2, .inl (cJ, 20, .inr (.inl (gK G)))), (a 3, .inl (cI, 60, .inl (ilv G))), (a 4, .inl (cI, 8, .inl lg)), (a 5, .inl (cI, 8, .inl lp)), (a 6, .inl (cI, 16, .inl rd)), (a 7, .inl (cI, 3, .inl M.2.2.2.2.2.2.1)), (a 8, .inl (cJ, 3, .inr (.inl M.2.2.2.2.2.2.2)))] H from hP) (show va_D A [(a 0, .inr (6, [.int (nI ln), .ref (a 1), .int (nI n), .ref (a 2), .ref (a 3), .int (nI k), .ref (a 4), .ref (a 5), .int (nI np), .ref (a 6), .long M.1, .ref (a 7), .int M.2.1, .int M.2.2.1, .int (oF ((none : Option (Nat × Nat)), M.2.2.2.2.1).1), .int (((none : Option (Nat × Nat)), M.2.2.2.2.1).2), .ref (a 8), .long M.2.2.2.2.2.1])), (a 1, .inl (cI, 28, .inl bf)), (a 2, .inl (cJ, 20, .inr (.inl (gK G)))), (a 3, .inl (cI, 60, .inl (ilv G))), (a 4, .inl (cI, 8, .inl lg)), (a 5, .inl (cI, 8, .inl lp)), (a 6, .inl (cI, 16, .inl rd)), (a 7, .inl (cI, 3, .inl M.2.2.2.2.2.2.1)), (a 8, .inl (cJ, 3, .inr (.inl M.2.2.2.2.2.2.2)))] from hD) hS (lv_sub hl [0, 1, 2, 3] rfl) (fun k26 z26 hlo26 hk26 hz26 hI26 H locs ls hP hD hS hl ih26 => ?_) (fun z26 hz26 hI26 H locs ls hP hD hS hl => ?_)
    · have hP : va_P (dC, dI) vwCl [(a 0, .inr (6, [.int (nI ln), .ref (a 1), .int (nI n), .ref (a 2), .ref (a 3), .int (nI k), .ref (a 4), .ref (a 5), .int (nI np), .ref (a 6), .long M.1, .ref (a 7), .int M.2.1, .int M.2.2.1, .int (oF z26.1), .int z26.2, .ref (a 8), .long M.2.2.2.2.2.1])), (a 1, .inl (cI, 28, .inl bf)), (a 2, .inl (cJ, 20, .inr (.inl (gK G)))), (a 3, .inl (cI, 60, .inl (ilv G))), (a 4, .inl (cI, 8, .inl lg)), (a 5, .inl (cI, 8, .inl lp)), (a 6, .inl (cI, 16, .inl rd)), (a 7, .inl (cI, 3, .inl M.2.2.2.2.2.2.1)), (a 8, .inl (cJ, 3, .inr (.inl M.2.2.2.2.2.2.2)))] H := hP
      have hD : va_D A [(a 0, .inr (6, [.int (nI ln), .ref (a 1), .int (nI n), .ref (a 2), .ref (a 3), .int (nI k), .ref (a 4), .ref (a 5), .int (nI np), .ref (a 6), .long M.1, .ref (a 7), .int M.2.1, .int M.2.2.1, .int (oF z26.1), .int z26.2, .ref (a 8), .long M.2.2.2.2.2.1])), (a 1, .inl (cI, 28, .inl bf)), (a 2, .inl (cJ, 20, .inr (.inl (gK G)))), (a 3, .inl (cI, 60, .inl (ilv G))), (a 4, .inl (cI, 8, .inl lg)), (a 5, .inl (cI, 8, .inl lp)), (a 6, .inl (cI, 16, .inl rd)), (a 7, .inl (cI, 3, .inl M.2.2.2.2.2.2.1)), (a 8, .inl (cJ, 3, .inr (.inl M.2.2.2.2.2.2.2)))] := hD
      refine lv_iload_n hx hb dX6_doubletNow_26 rfl (lv_at hl 0 rfl) ?_
      refine lv_iload_n hx hb dX6_doubletNow_27 rfl (lv_at hl 3 rfl) ?_
      refine rn_gt (tgt := 42) hx hb k26 p0 rfl rfl (by omega) (by omega) dX6_doubletNow_28 (by decide) (fun h28 => ?_) (fun h28 => ?_)
      · exfalso; omega
      · refine lv_aload_n hx hb dX6_doubletNow_31 rfl (lv_at hl 1 rfl) ?_
        refine lv_iload_n hx hb dX6_doubletNow_32 rfl (lv_at hl 2 rfl) ?_
        refine muVv (As := [.int bs]) (rest := []) (wr := []) (c_X6_findNext l dC dI cI cJ H.size a bf ln (by omega) G n (by omega) lg lp k (by omega) rd np (by omega) (M.1, M.2.1, M.2.2.1, oF z26.1, z26.2, M.2.2.2.2.2.1, M.2.2.2.2.2.2.1, M.2.2.2.2.2.2.2) hG hL hR z26.1 hI26 rfl bs) ⟨hx, hb, hml, hown, hts⟩ (cwV 1 hts gX6_doubletNow_X6_findNext rfl rfl rfl (by decide +kernel) ⟨Nat.le_of_ble_eq_true rfl, Nat.le_of_ble_eq_true rfl⟩) hP hD hS hA hK hN [0, 1, 2, 3, 4, 5, 6, 7, 8] [] rfl rfl (by decide) rfl (by decide) (by decide) (ci := 6) rfl rfl rfl hl.1 rfl (Nat.le_of_ble_eq_true rfl) dX6_doubletNow_33 ⟨Nat.le_of_ble_eq_true rfl, Nat.le_of_ble_eq_true rfl⟩ (fun _ H locs hr0 hP hD hS => ?_)
        have hP := hP.sub (ws' := [(a 0, .inr (6, [.int (nI ln), .ref (a 1), .int (nI n), .ref (a 2), .ref (a 3), .int (nI k), .ref (a 4), .ref (a 5), .int (nI np), .ref (a 6), .long M.1, .ref (a 7), .int M.2.1, .int M.2.2.1, .int (oF (nxF G n bs z26.1)), .int (oS (nxF G n bs z26.1)), .ref (a 8), .long M.2.2.2.2.2.1])), (a 1, .inl (cI, 28, .inl bf)), (a 2, .inl (cJ, 20, .inr (.inl (gK G)))), (a 3, .inl (cI, 60, .inl (ilv G))), (a 4, .inl (cI, 8, .inl lg)), (a 5, .inl (cI, 8, .inl lp)), (a 6, .inl (cI, 16, .inl rd)), (a 7, .inl (cI, 3, .inl M.2.2.2.2.2.2.1)), (a 8, .inl (cJ, 3, .inr (.inl M.2.2.2.2.2.2.2)))]) [0, 1, 2, 3, 4, 5, 6, 7, 8] rfl
        have hD := hD.sub (ws' := [(a 0, .inr (6, [.int (nI ln), .ref (a 1), .int (nI n), .ref (a 2), .ref (a 3), .int (nI k), .ref (a 4), .ref (a 5), .int (nI np), .ref (a 6), .long M.1, .ref (a 7), .int M.2.1, .int M.2.2.1, .int (oF (nxF G n bs z26.1)), .int (oS (nxF G n bs z26.1)), .ref (a 8), .long M.2.2.2.2.2.1])), (a 1, .inl (cI, 28, .inl bf)), (a 2, .inl (cJ, 20, .inr (.inl (gK G)))), (a 3, .inl (cI, 60, .inl (ilv G))), (a 4, .inl (cI, 8, .inl lg)), (a 5, .inl (cI, 8, .inl lp)), (a 6, .inl (cI, 16, .inl rd)), (a 7, .inl (cI, 3, .inl M.2.2.2.2.2.2.1)), (a 8, .inl (cJ, 3, .inr (.inl M.2.2.2.2.2.2.2)))]) [0, 1, 2, 3, 4, 5, 6, 7, 8] (by decide) rfl
        refine lv_iinc (v := nI (k26 + 1)) (lv' := [(3, .int (nI (k26 + 1))), (0, .ref (a 0)), (1, .int bs), (2, .int (nI p0))]) hx hb dX6_doubletNow_36 hl (k := 0) rfl (by first | rfl | exact nI_add _ _) (by decide) rfl (fun ls hl => ?_)
        refine lv_goto (tgt := 26) hx hb dX6_doubletNow_39 (by decide) ?_
        exact ih26 (sqF G n bs k26 z26) (rfl) (fun d h => ⟨(nxF_lt d h).1, (nxF_lt d h).2, by show oS (nxF G n bs z26.1) = nI d.2; rw [show nxF G n bs z26.1 = some d from h]; rfl⟩) H locs ls (show va_P (dC, dI) vwCl [(a 0, .inr (6, [.int (nI ln), .ref (a 1), .int (nI n), .ref (a 2), .ref (a 3), .int (nI k), .ref (a 4), .ref (a 5), .int (nI np), .ref (a 6), .long M.1, .ref (a 7), .int M.2.1, .int M.2.2.1, .int (oF (sqF G n bs k26 z26).1), .int ((sqF G n bs k26 z26).2), .ref (a 8), .long M.2.2.2.2.2.1])), (a 1, .inl (cI, 28, .inl bf)), (a 2, .inl (cJ, 20, .inr (.inl (gK G)))), (a 3, .inl (cI, 60, .inl (ilv G))), (a 4, .inl (cI, 8, .inl lg)), (a 5, .inl (cI, 8, .inl lp)), (a 6, .inl (cI, 16, .inl rd)), (a 7, .inl (cI, 3, .inl M.2.2.2.2.2.2.1)), (a 8, .inl (cJ, 3, .inr (.inl M.2.2.2.2.2.2.2)))] H from hP) (show va_D A [(a 0, .inr (6, [.int (nI ln), .ref (a 1), .int (nI n), .ref (a 2), .ref (a 3), .int (nI k), .ref (a 4), .ref (a 5), .int (nI np), .ref (a 6), .long M.1, .ref (a 7), .int M.2.1, .int M.2.2.1, .int (oF (sqF G n bs k26 z26).1), .int ((sqF G n bs k26 z26).2), .ref (a 8), .long M.2.2.2.2.2.1])), (a 1, .inl (cI, 28, .inl bf)), (a 2, .inl (cJ, 20, .inr (.inl (gK G)))), (a 3, .inl (cI, 60, .inl (ilv G))), (a 4, .inl (cI, 8, .inl lg)), (a 5, .inl (cI, 8, .inl lp)), (a 6, .inl (cI, 16, .inl rd)), (a 7, .inl (cI, 3, .inl M.2.2.2.2.2.2.1)), (a 8, .inl (cJ, 3, .inr (.inl M.2.2.2.2.2.2.2)))] from hD) hS (lv_sub hl [0, 1, 2, 3] rfl)
    · have hP : va_P (dC, dI) vwCl [(a 0, .inr (6, [.int (nI ln), .ref (a 1), .int (nI n), .ref (a 2), .ref (a 3), .int (nI k), .ref (a 4), .ref (a 5), .int (nI np), .ref (a 6), .long M.1, .ref (a 7), .int M.2.1, .int M.2.2.1, .int (oF z26.1), .int z26.2, .ref (a 8), .long M.2.2.2.2.2.1])), (a 1, .inl (cI, 28, .inl bf)), (a 2, .inl (cJ, 20, .inr (.inl (gK G)))), (a 3, .inl (cI, 60, .inl (ilv G))), (a 4, .inl (cI, 8, .inl lg)), (a 5, .inl (cI, 8, .inl lp)), (a 6, .inl (cI, 16, .inl rd)), (a 7, .inl (cI, 3, .inl M.2.2.2.2.2.2.1)), (a 8, .inl (cJ, 3, .inr (.inl M.2.2.2.2.2.2.2)))] H := hP
      have hD : va_D A [(a 0, .inr (6, [.int (nI ln), .ref (a 1), .int (nI n), .ref (a 2), .ref (a 3), .int (nI k), .ref (a 4), .ref (a 5), .int (nI np), .ref (a 6), .long M.1, .ref (a 7), .int M.2.1, .int M.2.2.1, .int (oF z26.1), .int z26.2, .ref (a 8), .long M.2.2.2.2.2.1])), (a 1, .inl (cI, 28, .inl bf)), (a 2, .inl (cJ, 20, .inr (.inl (gK G)))), (a 3, .inl (cI, 60, .inl (ilv G))), (a 4, .inl (cI, 8, .inl lg)), (a 5, .inl (cI, 8, .inl lp)), (a 6, .inl (cI, 16, .inl rd)), (a 7, .inl (cI, 3, .inl M.2.2.2.2.2.2.1)), (a 8, .inl (cJ, 3, .inr (.inl M.2.2.2.2.2.2.2)))] := hD
      obtain ⟨d0, hd0, hq0⟩ := sq_at (bs := bs) M.2.2.2.2.1 hG hn p0 hp0
      rw [← hz26] at hq0
      have hdD := isAt_D hd0
      have hdd := hdD.1
      have hdm := hdD.2.1
      refine lv_iload_n hx hb dX6_doubletNow_26 rfl (lv_at hl 0 rfl) ?_
      refine lv_iload_n hx hb dX6_doubletNow_27 rfl (lv_at hl 3 rfl) ?_
      refine rn_gt (tgt := 42) hx hb (p0 + 1) p0 rfl rfl (by omega) (by omega) dX6_doubletNow_28 (by decide) (fun h28 => ?_) (fun h28 => ?_)
      · refine lv_ldc2 (v := 100) hx hb hown (hts (.constantLong RX6 186 (100)) (by decide +kernel)) dX6_doubletNow_42 ?_
        refine lv_aload_n hx hb dX6_doubletNow_45 rfl (lv_at hl 1 rfl) ?_
        refine va_get (D := (dC, dI)) (ci := 6) (v := .int (oF z26.1)) (C := RX6) (T := TX6) (N := 18) hx hb hts (by decide +kernel) hown hK hP 0 rfl rfl 14 (by decide) (hts (.fieldLink RX6 168 "AchromatDeskModel" "one" "I") (by decide +kernel)) (fun _ h9 => h9) rfl dX6_doubletNow_46 ?_
        refine rw_topi (show (oF z26.1 : Int32) = (nI (d0 / 20) : Int32) from by rw [hq0]; rfl) ?_
        refine lv_i2l (v := lN (d0 / 20)) hx hb dX6_doubletNow_49 (nI_l (by omega)) ?_
        refine lv_lmul hx hb dX6_doubletNow_50 ?_
        refine rw_topl (lN_mul 100 (d0 / 20)) ?_
        refine lv_aload_n hx hb dX6_doubletNow_51 rfl (lv_at hl 1 rfl) ?_
        refine va_get (D := (dC, dI)) (ci := 6) (v := .int z26.2) (C := RX6) (T := TX6) (N := 18) hx hb hts (by decide +kernel) hown hK hP 0 rfl rfl 15 (by decide) (hts (.fieldLink RX6 171 "AchromatDeskModel" "other" "I") (by decide +kernel)) (fun _ h9 => h9) rfl dX6_doubletNow_52 ?_
        refine rw_topi (show (z26.2 : Int32) = (nI (d0 % 20) : Int32) from by rw [hq0]) ?_
        refine lv_i2l (v := lN (d0 % 20)) hx hb dX6_doubletNow_55 (nI_l (by omega)) ?_
        refine lv_ladd hx hb dX6_doubletNow_56 ?_
        refine rw_topl (lN_add (100 * (d0 / 20)) (d0 % 20)) ?_
        exact W.lret hx hb hr (fun t ht hW => ⟨⟨_, (M.1, M.2.1, M.2.2.1, oF z26.1, z26.2, M.2.2.2.2.2.1, M.2.2.2.2.2.2.1, M.2.2.2.2.2.2.2), rfl, (sDA_eq h12 (by rw [ix_nI (by omega)]; exact hd0)).symm, by rw [ht]; exact hP, by rw [hAe]; exact hD⟩, hS.F ht⟩) hS.2.2 dX6_doubletNow_57
      · exfalso; omega
  · have h12 := fun qq => h12 ((w_cnt x (by omega)).mpr qq)
    refine lv_ldc2 (v := (-9000000000000000008)) hx hb hown (hts (.constantLong RX6 134 (-9000000000000000008)) (by decide +kernel)) dX6_doubletNow_15 ?_
    exact W.lret hx hb hr (fun t ht hW => ⟨⟨_, M, rfl, by rw [sDA, if_neg h12], by rw [ht]; exact hP, by rw [hAe]; exact hD⟩, hS.F ht⟩) hS.2.2 dX6_doubletNow_18

set_option maxHeartbeats 4000000 in
set_option maxRecDepth 100000 in
theorem c_X6_doubletAt (l : Launch) (dC : Nat → ClassId) (dI : Nat → Nat → Nat) (cI cJ : ClassId) (sz : Nat) (a : Nat → Nat) (bf : Nat → Int32) (ln : Nat) (hln : ln ≤ 28) (G : GL) (n : Nat) (hn : n ≤ 20) (lg lp : Nat → Int32) (k : Nat) (hk : k ≤ 8) (rd : Nat → Int32) (np : Nat) (hp : np ≤ 16) (M : MS) (hG : gOK G n) (hL : lOK lg k n) (hR : rOK rd np) (bs x : Int32) : Met l yX6_doubletAt wsX6_doubletAt ({ frames := 5, cells := 0, slots := 0, locals := 125 }) (va_Pc [.ref (a 0), .int bs, .int x] (MU (dC, dI) (tyK cI cJ) ([(a 0, .inr (6, [.int (nI ln), .ref (a 1), .int (nI n), .ref (a 2), .ref (a 3), .int (nI k), .ref (a 4), .ref (a 5), .int (nI np), .ref (a 6), .long M.1, .ref (a 7), .int M.2.1, .int M.2.2.1, .int M.2.2.2.1, .int M.2.2.2.2.1, .ref (a 8), .long M.2.2.2.2.2.1])), (a 1, .inl (cI, 28, .inl bf)), (a 2, .inl (cJ, 20, .inr (.inl (gK G)))), (a 3, .inl (cI, 60, .inl (ilv G))), (a 4, .inl (cI, 8, .inl lg)), (a 5, .inl (cI, 8, .inl lp)), (a 6, .inl (cI, 16, .inl rd)), (a 7, .inl (cI, 3, .inl M.2.2.2.2.2.2.1)), (a 8, .inl (cJ, 3, .inr (.inl M.2.2.2.2.2.2.2)))]) sz)) (va_Ql (fun r (_ : MS) => r = sDA G n bs x) (MB (dC, dI) ([(a 0, .inr (6, [.int (nI ln), .ref (a 1), .int (nI n), .ref (a 2), .ref (a 3), .int (nI k), .ref (a 4), .ref (a 5), .int (nI np), .ref (a 6), .long M.1, .ref (a 7), .int M.2.1, .int M.2.2.1, .int M.2.2.2.1, .int M.2.2.2.2.1, .ref (a 8), .long M.2.2.2.2.2.1])), (a 1, .inl (cI, 28, .inl bf)), (a 2, .inl (cJ, 20, .inr (.inl (gK G)))), (a 3, .inl (cI, 60, .inl (ilv G))), (a 4, .inl (cI, 8, .inl lg)), (a 5, .inl (cI, 8, .inl lp)), (a 6, .inl (cI, 16, .inl rd)), (a 7, .inl (cI, 3, .inl M.2.2.2.2.2.2.1)), (a 8, .inl (cJ, 3, .inr (.inl M.2.2.2.2.2.2.2)))]) sz (fun (u : MS) => [(a 0, .inr (6, [.int (nI ln), .ref (a 1), .int (nI n), .ref (a 2), .ref (a 3), .int (nI k), .ref (a 4), .ref (a 5), .int (nI np), .ref (a 6), .long u.1, .ref (a 7), .int u.2.1, .int u.2.2.1, .int u.2.2.2.1, .int u.2.2.2.2.1, .ref (a 8), .long M.2.2.2.2.2.1])), (a 1, .inl (cI, 28, .inl bf)), (a 2, .inl (cJ, 20, .inr (.inl (gK G)))), (a 3, .inl (cI, 60, .inl (ilv G))), (a 4, .inl (cI, 8, .inl lg)), (a 5, .inl (cI, 8, .inl lp)), (a 6, .inl (cI, 16, .inl rd)), (a 7, .inl (cI, 3, .inl u.2.2.2.2.2.2.1)), (a 8, .inl (cJ, 3, .inr (.inl u.2.2.2.2.2.2.2)))])) (va_A ([(a 0, .inr (6, [.int (nI ln), .ref (a 1), .int (nI n), .ref (a 2), .ref (a 3), .int (nI k), .ref (a 4), .ref (a 5), .int (nI np), .ref (a 6), .long M.1, .ref (a 7), .int M.2.1, .int M.2.2.1, .int M.2.2.2.1, .int M.2.2.2.2.1, .ref (a 8), .long M.2.2.2.2.2.1])), (a 1, .inl (cI, 28, .inl bf)), (a 2, .inl (cJ, 20, .inr (.inl (gK G)))), (a 3, .inl (cI, 60, .inl (ilv G))), (a 4, .inl (cI, 8, .inl lg)), (a 5, .inl (cI, 8, .inl lp)), (a 6, .inl (cI, 16, .inl rd)), (a 7, .inl (cI, 3, .inl M.2.2.2.2.2.2.1)), (a 8, .inl (cJ, 3, .inr (.inl M.2.2.2.2.2.2.2)))]) sz)) 0 0 (va_A ([(a 0, .inr (6, [.int (nI ln), .ref (a 1), .int (nI n), .ref (a 2), .ref (a 3), .int (nI k), .ref (a 4), .ref (a 5), .int (nI np), .ref (a 6), .long M.1, .ref (a 7), .int M.2.1, .int M.2.2.1, .int M.2.2.2.1, .int M.2.2.2.2.1, .ref (a 8), .long M.2.2.2.2.2.1])), (a 1, .inl (cI, 28, .inl bf)), (a 2, .inl (cJ, 20, .inr (.inl (gK G)))), (a 3, .inl (cI, 60, .inl (ilv G))), (a 4, .inl (cI, 8, .inl lg)), (a 5, .inl (cI, 8, .inl lp)), (a 6, .inl (cI, 16, .inl rd)), (a 7, .inl (cI, 3, .inl M.2.2.2.2.2.2.1)), (a 8, .inl (cJ, 3, .inr (.inl M.2.2.2.2.2.2.2)))]) sz) := by
  refine Met.ofW (cc := cX6_doubletAt) (maxL := 3) (ret := (some .long)) (by decide) rfl ?_
  intro p e s m args below meth c s₁ B hml hv
  obtain ⟨rfl, hsz, hP, hK, hN, hD0⟩ := hv
  have hx := B.exec
  have hb := B.bytes
  have hr := B.returns
  have hts := atoms_spec (ws := wsX6_doubletAt) B.pre
  have hown : s.vm.findClass RX6 = some m.cls := findClass_of_methodNamed B.named
  have hlocks := B.notSynchronized
  subst hsz
  have hD := hD0.self (sz := s.heap.size)
  generalize hAe : va_A ([(a 0, .inr (6, [.int (nI ln), .ref (a 1), .int (nI n), .ref (a 2), .ref (a 3), .int (nI k), .ref (a 4), .ref (a 5), .int (nI np), .ref (a 6), .long M.1, .ref (a 7), .int M.2.1, .int M.2.2.1, .int M.2.2.2.1, .int M.2.2.2.2.1, .ref (a 8), .long M.2.2.2.2.2.1])), (a 1, .inl (cI, 28, .inl bf)), (a 2, .inl (cJ, 20, .inr (.inl (gK G)))), (a 3, .inl (cI, 60, .inl (ilv G))), (a 4, .inl (cI, 8, .inl lg)), (a 5, .inl (cI, 8, .inl lp)), (a 6, .inl (cI, 16, .inl rd)), (a 7, .inl (cI, 3, .inl M.2.2.2.2.2.2.1)), (a 8, .inl (cJ, 3, .inr (.inl M.2.2.2.2.2.2.2)))]) s.heap.size = A at hD ⊢
  have hA : ∀ q : Nat, s.heap.size ≤ q → A q := fun q h => by rw [← hAe]; exact Or.inr h
  have hS : va_S A s.heap s.heap [] := va_S.rf
  have hP : va_P (dC, dI) vwCl [(a 0, .inr (6, [.int (nI ln), .ref (a 1), .int (nI n), .ref (a 2), .ref (a 3), .int (nI k), .ref (a 4), .ref (a 5), .int (nI np), .ref (a 6), .long M.1, .ref (a 7), .int M.2.1, .int M.2.2.1, .int M.2.2.2.1, .int M.2.2.2.2.1, .ref (a 8), .long M.2.2.2.2.2.1])), (a 1, .inl (cI, 28, .inl bf)), (a 2, .inl (cJ, 20, .inr (.inl (gK G)))), (a 3, .inl (cI, 60, .inl (ilv G))), (a 4, .inl (cI, 8, .inl lg)), (a 5, .inl (cI, 8, .inl lp)), (a 6, .inl (cI, 16, .inl rd)), (a 7, .inl (cI, 3, .inl M.2.2.2.2.2.2.1)), (a 8, .inl (cJ, 3, .inr (.inl M.2.2.2.2.2.2.2)))] s.heap := hP
  have hD : va_D A [(a 0, .inr (6, [.int (nI ln), .ref (a 1), .int (nI n), .ref (a 2), .ref (a 3), .int (nI k), .ref (a 4), .ref (a 5), .int (nI np), .ref (a 6), .long M.1, .ref (a 7), .int M.2.1, .int M.2.2.1, .int M.2.2.2.1, .int M.2.2.2.2.1, .ref (a 8), .long M.2.2.2.2.2.1])), (a 1, .inl (cI, 28, .inl bf)), (a 2, .inl (cJ, 20, .inr (.inl (gK G)))), (a 3, .inl (cI, 60, .inl (ilv G))), (a 4, .inl (cI, 8, .inl lg)), (a 5, .inl (cI, 8, .inl lp)), (a 6, .inl (cI, 16, .inl rd)), (a 7, .inl (cI, 3, .inl M.2.2.2.2.2.2.1)), (a 8, .inl (cJ, 3, .inr (.inl M.2.2.2.2.2.2.2)))] := hD
  obtain ⟨H, hH⟩ : ∃ H : Heap, H = s.heap := ⟨_, rfl⟩
  obtain ⟨locs, hlc⟩ : ∃ locs : List Loc, locs = [] := ⟨_, rfl⟩
  have hl := lv_entry ([.ref (a 0), .int bs, .int x]) (n := 3) (Nat.le_of_ble_eq_true rfl)
  rw [lg_entry_eq]
  generalize (lg_sl ([.ref (a 0), .int bs, .int x]) ++ List.replicate (3 - (lg_sl ([.ref (a 0), .int bs, .int x])).length) Slot.unset).toArray = ls at hl ⊢
  have hl : lv_has ls 3 [(0, .ref (a 0)), (1, .int bs), (2, .int x)] := hl
  refine mu_in hH hlc (fun hS hP hD => ?_) hS hP hD
  clear hH hlc
  refine lv_aload_n hx hb dX6_doubletAt_0 rfl (lv_at hl 0 rfl) ?_
  refine lv_iload_n hx hb dX6_doubletAt_1 rfl (lv_at hl 1 rfl) ?_
  refine lv_iload_n hx hb dX6_doubletAt_2 rfl (lv_at hl 2 rfl) ?_
  refine muVl (As := [.int bs, .int x]) (rest := []) (wr := []) (c_X6_doubletNow l dC dI cI cJ H.size a bf ln (by omega) G n (by omega) lg lp k (by omega) rd np (by omega) M hG hL hR bs x) ⟨hx, hb, hml, hown, hts⟩ (cwV 2 hts gX6_doubletAt_X6_doubletNow rfl rfl rfl (by decide +kernel) ⟨Nat.le_of_ble_eq_true rfl, Nat.le_of_ble_eq_true rfl⟩) hP hD hS hA hK hN [0, 1, 2, 3, 4, 5, 6, 7, 8] [] rfl rfl (by decide) rfl (by decide) (by decide) (ci := 6) rfl rfl rfl hl.1 rfl (Nat.le_of_ble_eq_true rfl) dX6_doubletAt_3 ⟨Nat.le_of_ble_eq_true rfl, Nat.le_of_ble_eq_true rfl⟩ (fun r u H locs hr0 hP hD hS => ?_)
  have hP := hP.sub (ws' := [(a 0, .inr (6, [.int (nI ln), .ref (a 1), .int (nI n), .ref (a 2), .ref (a 3), .int (nI k), .ref (a 4), .ref (a 5), .int (nI np), .ref (a 6), .long u.1, .ref (a 7), .int u.2.1, .int u.2.2.1, .int u.2.2.2.1, .int u.2.2.2.2.1, .ref (a 8), .long M.2.2.2.2.2.1])), (a 1, .inl (cI, 28, .inl bf)), (a 2, .inl (cJ, 20, .inr (.inl (gK G)))), (a 3, .inl (cI, 60, .inl (ilv G))), (a 4, .inl (cI, 8, .inl lg)), (a 5, .inl (cI, 8, .inl lp)), (a 6, .inl (cI, 16, .inl rd)), (a 7, .inl (cI, 3, .inl u.2.2.2.2.2.2.1)), (a 8, .inl (cJ, 3, .inr (.inl u.2.2.2.2.2.2.2)))]) [0, 1, 2, 3, 4, 5, 6, 7, 8] rfl
  have hD := hD.sub (ws' := [(a 0, .inr (6, [.int (nI ln), .ref (a 1), .int (nI n), .ref (a 2), .ref (a 3), .int (nI k), .ref (a 4), .ref (a 5), .int (nI np), .ref (a 6), .long u.1, .ref (a 7), .int u.2.1, .int u.2.2.1, .int u.2.2.2.1, .int u.2.2.2.2.1, .ref (a 8), .long M.2.2.2.2.2.1])), (a 1, .inl (cI, 28, .inl bf)), (a 2, .inl (cJ, 20, .inr (.inl (gK G)))), (a 3, .inl (cI, 60, .inl (ilv G))), (a 4, .inl (cI, 8, .inl lg)), (a 5, .inl (cI, 8, .inl lp)), (a 6, .inl (cI, 16, .inl rd)), (a 7, .inl (cI, 3, .inl u.2.2.2.2.2.2.1)), (a 8, .inl (cJ, 3, .inr (.inl u.2.2.2.2.2.2.2)))]) [0, 1, 2, 3, 4, 5, 6, 7, 8] (by decide) rfl
  subst hr0
  exact W.lret hx hb hr (fun t ht hW => ⟨⟨_, u, rfl, rfl, by rw [ht]; exact hP, by rw [hAe]; exact hD⟩, hS.F ht⟩) hS.2.2 dX6_doubletAt_6

set_option maxHeartbeats 4000000 in
set_option maxRecDepth 100000 in
theorem c_X6_wrongNow (l : Launch) (dC : Nat → ClassId) (dI : Nat → Nat → Nat) (cI cJ : ClassId) (sz : Nat) (a : Nat → Nat) (bf : Nat → Int32) (ln : Nat) (hln : ln ≤ 28) (G : GL) (n : Nat) (hn : n ≤ 20) (lg lp : Nat → Int32) (k : Nat) (hk : k ≤ 8) (rd : Nat → Int32) (np : Nat) (hp : np ≤ 16) (M : MS) (hG : gOK G n) (hL : lOK lg k n) (hR : rOK rd np) (a0 a1 a2 : Int64) : Met l yX6_wrongNow wsX6_wrongNow ({ frames := 4, cells := 0, slots := 0, locals := 97 }) (va_Pc [.ref (a 0), .long a0, .long a1, .long a2] (MU (dC, dI) (tyK cI cJ) ([(a 0, .inr (6, [.int (nI ln), .ref (a 1), .int (nI n), .ref (a 2), .ref (a 3), .int (nI k), .ref (a 4), .ref (a 5), .int (nI np), .ref (a 6), .long M.1, .ref (a 7), .int M.2.1, .int M.2.2.1, .int M.2.2.2.1, .int M.2.2.2.2.1, .ref (a 8), .long M.2.2.2.2.2.1])), (a 1, .inl (cI, 28, .inl bf)), (a 2, .inl (cJ, 20, .inr (.inl (gK G)))), (a 3, .inl (cI, 60, .inl (ilv G))), (a 4, .inl (cI, 8, .inl lg)), (a 5, .inl (cI, 8, .inl lp)), (a 6, .inl (cI, 16, .inl rd)), (a 7, .inl (cI, 3, .inl M.2.2.2.2.2.2.1)), (a 8, .inl (cJ, 3, .inr (.inl M.2.2.2.2.2.2.2)))]) sz)) (va_Ql (fun r (_ : MS) => r = vWr G lg lp k n a0 a1 a2) (MB (dC, dI) ([(a 0, .inr (6, [.int (nI ln), .ref (a 1), .int (nI n), .ref (a 2), .ref (a 3), .int (nI k), .ref (a 4), .ref (a 5), .int (nI np), .ref (a 6), .long M.1, .ref (a 7), .int M.2.1, .int M.2.2.1, .int M.2.2.2.1, .int M.2.2.2.2.1, .ref (a 8), .long M.2.2.2.2.2.1])), (a 1, .inl (cI, 28, .inl bf)), (a 2, .inl (cJ, 20, .inr (.inl (gK G)))), (a 3, .inl (cI, 60, .inl (ilv G))), (a 4, .inl (cI, 8, .inl lg)), (a 5, .inl (cI, 8, .inl lp)), (a 6, .inl (cI, 16, .inl rd)), (a 7, .inl (cI, 3, .inl M.2.2.2.2.2.2.1)), (a 8, .inl (cJ, 3, .inr (.inl M.2.2.2.2.2.2.2)))]) sz (fun (u : MS) => [(a 0, .inr (6, [.int (nI ln), .ref (a 1), .int (nI n), .ref (a 2), .ref (a 3), .int (nI k), .ref (a 4), .ref (a 5), .int (nI np), .ref (a 6), .long u.1, .ref (a 7), .int u.2.1, .int u.2.2.1, .int u.2.2.2.1, .int u.2.2.2.2.1, .ref (a 8), .long M.2.2.2.2.2.1])), (a 1, .inl (cI, 28, .inl bf)), (a 2, .inl (cJ, 20, .inr (.inl (gK G)))), (a 3, .inl (cI, 60, .inl (ilv G))), (a 4, .inl (cI, 8, .inl lg)), (a 5, .inl (cI, 8, .inl lp)), (a 6, .inl (cI, 16, .inl rd)), (a 7, .inl (cI, 3, .inl u.2.2.2.2.2.2.1)), (a 8, .inl (cJ, 3, .inr (.inl u.2.2.2.2.2.2.2)))])) (va_A ([(a 0, .inr (6, [.int (nI ln), .ref (a 1), .int (nI n), .ref (a 2), .ref (a 3), .int (nI k), .ref (a 4), .ref (a 5), .int (nI np), .ref (a 6), .long M.1, .ref (a 7), .int M.2.1, .int M.2.2.1, .int M.2.2.2.1, .int M.2.2.2.2.1, .ref (a 8), .long M.2.2.2.2.2.1])), (a 1, .inl (cI, 28, .inl bf)), (a 2, .inl (cJ, 20, .inr (.inl (gK G)))), (a 3, .inl (cI, 60, .inl (ilv G))), (a 4, .inl (cI, 8, .inl lg)), (a 5, .inl (cI, 8, .inl lp)), (a 6, .inl (cI, 16, .inl rd)), (a 7, .inl (cI, 3, .inl M.2.2.2.2.2.2.1)), (a 8, .inl (cJ, 3, .inr (.inl M.2.2.2.2.2.2.2)))]) sz)) 0 0 (va_A ([(a 0, .inr (6, [.int (nI ln), .ref (a 1), .int (nI n), .ref (a 2), .ref (a 3), .int (nI k), .ref (a 4), .ref (a 5), .int (nI np), .ref (a 6), .long M.1, .ref (a 7), .int M.2.1, .int M.2.2.1, .int M.2.2.2.1, .int M.2.2.2.2.1, .ref (a 8), .long M.2.2.2.2.2.1])), (a 1, .inl (cI, 28, .inl bf)), (a 2, .inl (cJ, 20, .inr (.inl (gK G)))), (a 3, .inl (cI, 60, .inl (ilv G))), (a 4, .inl (cI, 8, .inl lg)), (a 5, .inl (cI, 8, .inl lp)), (a 6, .inl (cI, 16, .inl rd)), (a 7, .inl (cI, 3, .inl M.2.2.2.2.2.2.1)), (a 8, .inl (cJ, 3, .inr (.inl M.2.2.2.2.2.2.2)))]) sz) := by
  refine Met.ofW (cc := cX6_wrongNow) (maxL := 16) (ret := (some .long)) (by decide) rfl ?_
  intro p e s m args below meth c s₁ B hml hv
  obtain ⟨rfl, hsz, hP, hK, hN, hD0⟩ := hv
  have hx := B.exec
  have hb := B.bytes
  have hr := B.returns
  have hts := atoms_spec (ws := wsX6_wrongNow) B.pre
  have hown : s.vm.findClass RX6 = some m.cls := findClass_of_methodNamed B.named
  have hlocks := B.notSynchronized
  subst hsz
  have hD := hD0.self (sz := s.heap.size)
  generalize hAe : va_A ([(a 0, .inr (6, [.int (nI ln), .ref (a 1), .int (nI n), .ref (a 2), .ref (a 3), .int (nI k), .ref (a 4), .ref (a 5), .int (nI np), .ref (a 6), .long M.1, .ref (a 7), .int M.2.1, .int M.2.2.1, .int M.2.2.2.1, .int M.2.2.2.2.1, .ref (a 8), .long M.2.2.2.2.2.1])), (a 1, .inl (cI, 28, .inl bf)), (a 2, .inl (cJ, 20, .inr (.inl (gK G)))), (a 3, .inl (cI, 60, .inl (ilv G))), (a 4, .inl (cI, 8, .inl lg)), (a 5, .inl (cI, 8, .inl lp)), (a 6, .inl (cI, 16, .inl rd)), (a 7, .inl (cI, 3, .inl M.2.2.2.2.2.2.1)), (a 8, .inl (cJ, 3, .inr (.inl M.2.2.2.2.2.2.2)))]) s.heap.size = A at hD ⊢
  have hA : ∀ q : Nat, s.heap.size ≤ q → A q := fun q h => by rw [← hAe]; exact Or.inr h
  have hS : va_S A s.heap s.heap [] := va_S.rf
  have hP : va_P (dC, dI) vwCl [(a 0, .inr (6, [.int (nI ln), .ref (a 1), .int (nI n), .ref (a 2), .ref (a 3), .int (nI k), .ref (a 4), .ref (a 5), .int (nI np), .ref (a 6), .long M.1, .ref (a 7), .int M.2.1, .int M.2.2.1, .int M.2.2.2.1, .int M.2.2.2.2.1, .ref (a 8), .long M.2.2.2.2.2.1])), (a 1, .inl (cI, 28, .inl bf)), (a 2, .inl (cJ, 20, .inr (.inl (gK G)))), (a 3, .inl (cI, 60, .inl (ilv G))), (a 4, .inl (cI, 8, .inl lg)), (a 5, .inl (cI, 8, .inl lp)), (a 6, .inl (cI, 16, .inl rd)), (a 7, .inl (cI, 3, .inl M.2.2.2.2.2.2.1)), (a 8, .inl (cJ, 3, .inr (.inl M.2.2.2.2.2.2.2)))] s.heap := hP
  have hD : va_D A [(a 0, .inr (6, [.int (nI ln), .ref (a 1), .int (nI n), .ref (a 2), .ref (a 3), .int (nI k), .ref (a 4), .ref (a 5), .int (nI np), .ref (a 6), .long M.1, .ref (a 7), .int M.2.1, .int M.2.2.1, .int M.2.2.2.1, .int M.2.2.2.2.1, .ref (a 8), .long M.2.2.2.2.2.1])), (a 1, .inl (cI, 28, .inl bf)), (a 2, .inl (cJ, 20, .inr (.inl (gK G)))), (a 3, .inl (cI, 60, .inl (ilv G))), (a 4, .inl (cI, 8, .inl lg)), (a 5, .inl (cI, 8, .inl lp)), (a 6, .inl (cI, 16, .inl rd)), (a 7, .inl (cI, 3, .inl M.2.2.2.2.2.2.1)), (a 8, .inl (cJ, 3, .inr (.inl M.2.2.2.2.2.2.2)))] := hD
  obtain ⟨H, hH⟩ : ∃ H : Heap, H = s.heap := ⟨_, rfl⟩
  obtain ⟨locs, hlc⟩ : ∃ locs : List Loc, locs = [] := ⟨_, rfl⟩
  have hl := lv_entry ([.ref (a 0), .long a0, .long a1, .long a2]) (n := 16) (Nat.le_of_ble_eq_true rfl)
  rw [lg_entry_eq]
  generalize (lg_sl ([.ref (a 0), .long a0, .long a1, .long a2]) ++ List.replicate (16 - (lg_sl ([.ref (a 0), .long a0, .long a1, .long a2])).length) Slot.unset).toArray = ls at hl ⊢
  have hl : lv_has ls 16 [(0, .ref (a 0)), (1, .long a0), (3, .long a1), (5, .long a2)] := hl
  refine mu_in hH hlc (fun hS hP hD => ?_) hS hP hD
  clear hH hlc
  refine lv_aload_n hx hb dX6_wrongNow_0 rfl (lv_at hl 0 rfl) ?_
  refine va_get (D := (dC, dI)) (ci := 6) (v := .int (nI k)) (C := RX6) (T := TX6) (N := 18) hx hb hts (by decide +kernel) hown hK hP 0 rfl rfl 5 (by decide) (hts (.fieldLink RX6 43 "AchromatDeskModel" "lenses" "I") (by decide +kernel)) (fun _ h9 => h9) rfl dX6_wrongNow_1 ?_
  refine rz_eq (tgt := 15) hx hb k rfl (by omega) dX6_wrongNow_4 (by decide) (fun h4 => ?_) (fun h4 => ?_)
  · refine lv_ldc2 (v := (-9000000000000000008)) hx hb hown (hts (.constantLong RX6 134 (-9000000000000000008)) (by decide +kernel)) dX6_wrongNow_15 ?_
    exact W.lret hx hb hr (fun t ht hW => ⟨⟨_, M, rfl, by subst h4; rfl, by rw [ht]; exact hP, by rw [hAe]; exact hD⟩, hS.F ht⟩) hS.2.2 dX6_wrongNow_18
  · refine lv_aload_n hx hb dX6_wrongNow_7 rfl (lv_at hl 0 rfl) ?_
    refine va_get (D := (dC, dI)) (ci := 6) (v := .int (nI n)) (C := RX6) (T := TX6) (N := 18) hx hb hts (by decide +kernel) hown hK hP 0 rfl rfl 2 (by decide) (hts (.fieldLink RX6 35 "AchromatDeskModel" "glasses" "I") (by decide +kernel)) (fun _ h9 => h9) rfl dX6_wrongNow_8 ?_
    refine lv_iconst (v := 2) hx hb dX6_wrongNow_11 (by decide) ?_
    refine rn_ge (tgt := 19) hx hb n 2 rfl rfl (by omega) (by omega) dX6_wrongNow_12 (by decide) (fun h12 => ?_) (fun h12 => ?_)
    · refine lv_aload_n hx hb dX6_wrongNow_19 rfl (lv_at hl 0 rfl) ?_
      refine va_get (D := (dC, dI)) (ci := 6) (v := .ref (a 8)) (C := RX6) (T := TX6) (N := 18) hx hb hts (by decide +kernel) hown hK hP 0 rfl rfl 16 (by decide) (hts (.fieldLink RX6 32 "AchromatDeskModel" "measured" "[J") (by decide +kernel)) (fun _ h9 => h9) rfl dX6_wrongNow_20 ?_
      refine lv_iconst (v := 0) hx hb dX6_wrongNow_23 (by decide) ?_
      refine lv_lload_n hx hb dX6_wrongNow_24 rfl (lv_at hl 1 rfl) ?_
      refine ar_last hx hb hK hP hD hS 8 1 rfl rfl 0 rfl (by omega) (by omega) dX6_wrongNow_25 (fun H locs hP hD hS => ?_)
      have hP : va_P (dC, dI) vwCl [(a 0, .inr (6, [.int (nI ln), .ref (a 1), .int (nI n), .ref (a 2), .ref (a 3), .int (nI k), .ref (a 4), .ref (a 5), .int (nI np), .ref (a 6), .long M.1, .ref (a 7), .int M.2.1, .int M.2.2.1, .int M.2.2.2.1, .int M.2.2.2.2.1, .ref (a 8), .long M.2.2.2.2.2.1])), (a 1, .inl (cI, 28, .inl bf)), (a 2, .inl (cJ, 20, .inr (.inl (gK G)))), (a 3, .inl (cI, 60, .inl (ilv G))), (a 4, .inl (cI, 8, .inl lg)), (a 5, .inl (cI, 8, .inl lp)), (a 6, .inl (cI, 16, .inl rd)), (a 7, .inl (cI, 3, .inl M.2.2.2.2.2.2.1)), (a 8, .inl (cJ, 3, .inr (.inl (vp_updL M.2.2.2.2.2.2.2 0 a0))))] H := hP
      have hD : va_D A [(a 0, .inr (6, [.int (nI ln), .ref (a 1), .int (nI n), .ref (a 2), .ref (a 3), .int (nI k), .ref (a 4), .ref (a 5), .int (nI np), .ref (a 6), .long M.1, .ref (a 7), .int M.2.1, .int M.2.2.1, .int M.2.2.2.1, .int M.2.2.2.2.1, .ref (a 8), .long M.2.2.2.2.2.1])), (a 1, .inl (cI, 28, .inl bf)), (a 2, .inl (cJ, 20, .inr (.inl (gK G)))), (a 3, .inl (cI, 60, .inl (ilv G))), (a 4, .inl (cI, 8, .inl lg)), (a 5, .inl (cI, 8, .inl lp)), (a 6, .inl (cI, 16, .inl rd)), (a 7, .inl (cI, 3, .inl M.2.2.2.2.2.2.1)), (a 8, .inl (cJ, 3, .inr (.inl (vp_updL M.2.2.2.2.2.2.2 0 a0))))] := hD
      refine lv_aload_n hx hb dX6_wrongNow_26 rfl (lv_at hl 0 rfl) ?_
      refine va_get (D := (dC, dI)) (ci := 6) (v := .ref (a 8)) (C := RX6) (T := TX6) (N := 18) hx hb hts (by decide +kernel) hown hK hP 0 rfl rfl 16 (by decide) (hts (.fieldLink RX6 32 "AchromatDeskModel" "measured" "[J") (by decide +kernel)) (fun _ h9 => h9) rfl dX6_wrongNow_27 ?_
      refine lv_iconst (v := 1) hx hb dX6_wrongNow_30 (by decide) ?_
      refine lv_lload_n hx hb dX6_wrongNow_31 rfl (lv_at hl 2 rfl) ?_
      refine ar_last hx hb hK hP hD hS 8 1 rfl rfl 1 rfl (by omega) (by omega) dX6_wrongNow_32 (fun H locs hP hD hS => ?_)
      have hP : va_P (dC, dI) vwCl [(a 0, .inr (6, [.int (nI ln), .ref (a 1), .int (nI n), .ref (a 2), .ref (a 3), .int (nI k), .ref (a 4), .ref (a 5), .int (nI np), .ref (a 6), .long M.1, .ref (a 7), .int M.2.1, .int M.2.2.1, .int M.2.2.2.1, .int M.2.2.2.2.1, .ref (a 8), .long M.2.2.2.2.2.1])), (a 1, .inl (cI, 28, .inl bf)), (a 2, .inl (cJ, 20, .inr (.inl (gK G)))), (a 3, .inl (cI, 60, .inl (ilv G))), (a 4, .inl (cI, 8, .inl lg)), (a 5, .inl (cI, 8, .inl lp)), (a 6, .inl (cI, 16, .inl rd)), (a 7, .inl (cI, 3, .inl M.2.2.2.2.2.2.1)), (a 8, .inl (cJ, 3, .inr (.inl (vp_updL (vp_updL M.2.2.2.2.2.2.2 0 a0) 1 a1))))] H := hP
      have hD : va_D A [(a 0, .inr (6, [.int (nI ln), .ref (a 1), .int (nI n), .ref (a 2), .ref (a 3), .int (nI k), .ref (a 4), .ref (a 5), .int (nI np), .ref (a 6), .long M.1, .ref (a 7), .int M.2.1, .int M.2.2.1, .int M.2.2.2.1, .int M.2.2.2.2.1, .ref (a 8), .long M.2.2.2.2.2.1])), (a 1, .inl (cI, 28, .inl bf)), (a 2, .inl (cJ, 20, .inr (.inl (gK G)))), (a 3, .inl (cI, 60, .inl (ilv G))), (a 4, .inl (cI, 8, .inl lg)), (a 5, .inl (cI, 8, .inl lp)), (a 6, .inl (cI, 16, .inl rd)), (a 7, .inl (cI, 3, .inl M.2.2.2.2.2.2.1)), (a 8, .inl (cJ, 3, .inr (.inl (vp_updL (vp_updL M.2.2.2.2.2.2.2 0 a0) 1 a1))))] := hD
      refine lv_aload_n hx hb dX6_wrongNow_33 rfl (lv_at hl 0 rfl) ?_
      refine va_get (D := (dC, dI)) (ci := 6) (v := .ref (a 8)) (C := RX6) (T := TX6) (N := 18) hx hb hts (by decide +kernel) hown hK hP 0 rfl rfl 16 (by decide) (hts (.fieldLink RX6 32 "AchromatDeskModel" "measured" "[J") (by decide +kernel)) (fun _ h9 => h9) rfl dX6_wrongNow_34 ?_
      refine lv_iconst (v := 2) hx hb dX6_wrongNow_37 (by decide) ?_
      refine lv_lload hx hb dX6_wrongNow_38 (lv_at hl 3 rfl) ?_
      refine ar_last hx hb hK hP hD hS 8 1 rfl rfl 2 rfl (by omega) (by omega) dX6_wrongNow_40 (fun H locs hP hD hS => ?_)
      have hP : va_P (dC, dI) vwCl [(a 0, .inr (6, [.int (nI ln), .ref (a 1), .int (nI n), .ref (a 2), .ref (a 3), .int (nI k), .ref (a 4), .ref (a 5), .int (nI np), .ref (a 6), .long M.1, .ref (a 7), .int M.2.1, .int M.2.2.1, .int M.2.2.2.1, .int M.2.2.2.2.1, .ref (a 8), .long M.2.2.2.2.2.1])), (a 1, .inl (cI, 28, .inl bf)), (a 2, .inl (cJ, 20, .inr (.inl (gK G)))), (a 3, .inl (cI, 60, .inl (ilv G))), (a 4, .inl (cI, 8, .inl lg)), (a 5, .inl (cI, 8, .inl lp)), (a 6, .inl (cI, 16, .inl rd)), (a 7, .inl (cI, 3, .inl M.2.2.2.2.2.2.1)), (a 8, .inl (cJ, 3, .inr (.inl (vp_updL (vp_updL (vp_updL M.2.2.2.2.2.2.2 0 a0) 1 a1) 2 a2))))] H := hP
      have hD : va_D A [(a 0, .inr (6, [.int (nI ln), .ref (a 1), .int (nI n), .ref (a 2), .ref (a 3), .int (nI k), .ref (a 4), .ref (a 5), .int (nI np), .ref (a 6), .long M.1, .ref (a 7), .int M.2.1, .int M.2.2.1, .int M.2.2.2.1, .int M.2.2.2.2.1, .ref (a 8), .long M.2.2.2.2.2.1])), (a 1, .inl (cI, 28, .inl bf)), (a 2, .inl (cJ, 20, .inr (.inl (gK G)))), (a 3, .inl (cI, 60, .inl (ilv G))), (a 4, .inl (cI, 8, .inl lg)), (a 5, .inl (cI, 8, .inl lp)), (a 6, .inl (cI, 16, .inl rd)), (a 7, .inl (cI, 3, .inl M.2.2.2.2.2.2.1)), (a 8, .inl (cJ, 3, .inr (.inl (vp_updL (vp_updL (vp_updL M.2.2.2.2.2.2.2 0 a0) 1 a1) 2 a2))))] := hD
      refine lv_ldc2 (v := (-9000000000000000008)) hx hb hown (hts (.constantLong RX6 134 (-9000000000000000008)) (by decide +kernel)) dX6_wrongNow_41 ?_
      refine lv_lstore (lv' := [(7, .long (-9000000000000000008)), (0, .ref (a 0)), (1, .long a0), (3, .long a1), (5, .long a2)]) hx hb dX6_wrongNow_44 hl (by decide) rfl (fun ls hl => ?_)
      refine lv_lconst (v := 0) hx hb dX6_wrongNow_46 (by decide) ?_
      refine lv_lstore (lv' := [(9, .long 0), (7, .long (-9000000000000000008)), (0, .ref (a 0)), (1, .long a0), (3, .long a1), (5, .long a2)]) hx hb dX6_wrongNow_47 hl (by decide) rfl (fun ls hl => ?_)
      refine lv_iconst (v := 0) hx hb dX6_wrongNow_49 (by decide) ?_
      refine lv_istore (lv' := [(11, .int 0), (9, .long 0), (7, .long (-9000000000000000008)), (0, .ref (a 0)), (1, .long a0), (3, .long a1), (5, .long a2)]) hx hb dX6_wrongNow_50 hl (by decide) rfl (fun ls hl => ?_)
      refine rloopZ (nL := 16) 0 k (fun j b => wrg2 G lg lp n (vP G lg lp 0 k - a0) (vP G lg lp 1 k - a1) (vP G lg lp 2 k - a2) j b) (cNO, 0) (fun k52 z52 => [(11, .int (nI k52)), (9, .long z52.2), (7, .long z52.1), (0, .ref (a 0)), (1, .long a0), (3, .long a1), (5, .long a2)]) (fun _ _ => True) (by omega) (trivial) (lv_sub hl [0, 1, 2, 3, 4, 5, 6] rfl) (fun k52 z52 hlo52 hk52 hz52 hI52 ls hl ih52 => ?_) (fun z52 hz52 hI52 ls hl => ?_)
      · refine lv_iload hx hb dX6_wrongNow_52 (lv_at hl 0 rfl) ?_
        refine lv_aload_n hx hb dX6_wrongNow_54 rfl (lv_at hl 3 rfl) ?_
        refine va_get (D := (dC, dI)) (ci := 6) (v := .int (nI k)) (C := RX6) (T := TX6) (N := 18) hx hb hts (by decide +kernel) hown hK hP 0 rfl rfl 5 (by decide) (hts (.fieldLink RX6 43 "AchromatDeskModel" "lenses" "I") (by decide +kernel)) (fun _ h9 => h9) rfl dX6_wrongNow_55 ?_
        refine rn_ge (tgt := 181) hx hb k52 k rfl rfl (by omega) (by omega) dX6_wrongNow_58 (by decide) (fun h58 => ?_) (fun h58 => ?_)
        · exfalso; omega
        · refine lv_iconst (v := 0) hx hb dX6_wrongNow_61 (by decide) ?_
          refine lv_istore (lv' := [(12, .int 0), (11, .int (nI k52)), (9, .long z52.2), (7, .long z52.1), (0, .ref (a 0)), (1, .long a0), (3, .long a1), (5, .long a2)]) hx hb dX6_wrongNow_62 hl (by decide) rfl (fun ls hl => ?_)
          refine rloopZ (nL := 16) 0 n (fun g b => pick b (lN (100 * k52 + g)) (if nI g = lg k52 then -1 else vM G lg lp (vP G lg lp 0 k - a0) (vP G lg lp 1 k - a1) (vP G lg lp 2 k - a2) k52 g)) z52 (fun k64 z64 => [(12, .int (nI k64)), (11, .int (nI k52)), (9, .long z64.2), (7, .long z64.1), (0, .ref (a 0)), (1, .long a0), (3, .long a1), (5, .long a2)]) (fun _ _ => True) (by omega) (trivial) (lv_sub hl [0, 1, 2, 3, 4, 5, 6, 7] rfl) (fun k64 z64 hlo64 hk64 hz64 hI64 ls hl ih64 => ?_) (fun z64 hz64 hI64 ls hl => ?_)
          · refine lv_iload hx hb dX6_wrongNow_64 (lv_at hl 0 rfl) ?_
            refine lv_aload_n hx hb dX6_wrongNow_66 rfl (lv_at hl 4 rfl) ?_
            refine va_get (D := (dC, dI)) (ci := 6) (v := .int (nI n)) (C := RX6) (T := TX6) (N := 18) hx hb hts (by decide +kernel) hown hK hP 0 rfl rfl 2 (by decide) (hts (.fieldLink RX6 35 "AchromatDeskModel" "glasses" "I") (by decide +kernel)) (fun _ h9 => h9) rfl dX6_wrongNow_67 ?_
            refine rn_ge (tgt := 175) hx hb k64 n rfl rfl (by omega) (by omega) dX6_wrongNow_70 (by decide) (fun h70 => ?_) (fun h70 => ?_)
            · exfalso; omega
            · refine lv_iload hx hb dX6_wrongNow_73 (lv_at hl 0 rfl) ?_
              refine lv_aload_n hx hb dX6_wrongNow_75 rfl (lv_at hl 4 rfl) ?_
              refine va_get (D := (dC, dI)) (ci := 6) (v := .ref (a 4)) (C := RX6) (T := TX6) (N := 18) hx hb hts (by decide +kernel) hown hK hP 0 rfl rfl 6 (by decide) (hts (.fieldLink RX6 20 "AchromatDeskModel" "glassOf" "[I") (by decide +kernel)) (fun _ h9 => h9) rfl dX6_wrongNow_76 ?_
              refine lv_iload hx hb dX6_wrongNow_79 (lv_at hl 1 rfl) ?_
              refine ar_iald hx hb hK hP 4 0 rfl rfl k52 rfl (by omega) (by omega) dX6_wrongNow_81 ?_
              refine lv_icmp_ne (tgt := 91) hx hb dX6_wrongNow_82 (by decide) (fun h82 => ?_) (fun h82 => ?_)
              · refine lv_aload_n hx hb dX6_wrongNow_91 rfl (lv_at hl 4 rfl) ?_
                refine lv_iload hx hb dX6_wrongNow_92 (lv_at hl 1 rfl) ?_
                refine lv_iload hx hb dX6_wrongNow_94 (lv_at hl 0 rfl) ?_
                refine roVl (As := [.int (nI k52), .int (nI k64)]) (rest := []) (c_X6_miss l dC dI cI cJ a bf ln (by omega) G n (by omega) lg lp k (by omega) rd np (by omega) (M.1, M.2.1, M.2.2.1, M.2.2.2.1, M.2.2.2.2.1, M.2.2.2.2.2.1, M.2.2.2.2.2.2.1, vp_updL (vp_updL (vp_updL M.2.2.2.2.2.2.2 0 a0) 1 a1) 2 a2) hG hL hR k52 k64 (by omega) (by omega)) ⟨hx, hb, hml, hown, hts⟩ (cwV 2 hts gX6_wrongNow_X6_miss rfl rfl rfl (by decide +kernel) ⟨Nat.le_of_ble_eq_true rfl, Nat.le_of_ble_eq_true rfl⟩) (hP.sub [0, 1, 2, 3, 4, 5, 6, 7, 8] rfl) hK hN (ci := 6) rfl rfl rfl hl.1 rfl (Nat.le_of_ble_eq_true rfl) dX6_wrongNow_96 ⟨Nat.zero_le _, Nat.zero_le _⟩ (fun r hr0 => ?_)
                subst hr0
                refine lv_lstore (lv' := [(13, .long (vM G lg lp (vP G lg lp 0 k - a0) (vP G lg lp 1 k - a1) (vP G lg lp 2 k - a2) k52 k64)), (12, .int (nI k64)), (11, .int (nI k52)), (9, .long z64.2), (7, .long z64.1), (0, .ref (a 0)), (1, .long a0), (3, .long a1), (5, .long a2)]) hx hb dX6_wrongNow_99 hl (by decide) rfl (fun ls hl => ?_)
                refine lv_lload hx hb dX6_wrongNow_101 (lv_at hl 0 rfl) ?_
                refine lv_lconst (v := 0) hx hb dX6_wrongNow_103 (by decide) ?_
                refine rl_iflt (tgt := 129) hx hb dX6_wrongNow_104 dX6_wrongNow_105 (by decide) (fun h104 => ?_) (fun h104 => ?_)
                · refine lv_iconst (v := 0) hx hb dX6_wrongNow_129 (by decide) ?_
                  refine lv_istore (lv' := [(15, .int 0), (13, .long (vM G lg lp (vP G lg lp 0 k - a0) (vP G lg lp 1 k - a1) (vP G lg lp 2 k - a2) k52 k64)), (12, .int (nI k64)), (11, .int (nI k52)), (9, .long z64.2), (7, .long z64.1), (0, .ref (a 0)), (1, .long a0), (3, .long a1), (5, .long a2)]) hx hb dX6_wrongNow_130 hl (by decide) rfl (fun ls hl => ?_)
                  refine lv_iload hx hb dX6_wrongNow_132 (lv_at hl 0 rfl) ?_
                  refine rz_eq (tgt := 151) hx hb 0 rfl (by omega) dX6_wrongNow_134 (by decide) (fun h134 => ?_) (fun h134 => ?_)
                  · refine lv_lload hx hb dX6_wrongNow_151 (lv_at hl 5 rfl) ?_
                    refine lv_lstore (lv' := [(7, .long z64.1), (15, .int 0), (13, .long (vM G lg lp (vP G lg lp 0 k - a0) (vP G lg lp 1 k - a1) (vP G lg lp 2 k - a2) k52 k64)), (12, .int (nI k64)), (11, .int (nI k52)), (9, .long z64.2), (0, .ref (a 0)), (1, .long a0), (3, .long a1), (5, .long a2)]) hx hb dX6_wrongNow_153 hl (by decide) rfl (fun ls hl => ?_)
                    refine lv_iload hx hb dX6_wrongNow_155 (lv_at hl 1 rfl) ?_
                    refine rz_eq (tgt := 165) hx hb 0 rfl (by omega) dX6_wrongNow_157 (by decide) (fun h157 => ?_) (fun h157 => ?_)
                    · refine lv_lload hx hb dX6_wrongNow_165 (lv_at hl 5 rfl) ?_
                      refine lv_lstore (lv' := [(9, .long z64.2), (7, .long z64.1), (15, .int 0), (13, .long (vM G lg lp (vP G lg lp 0 k - a0) (vP G lg lp 1 k - a1) (vP G lg lp 2 k - a2) k52 k64)), (12, .int (nI k64)), (11, .int (nI k52)), (0, .ref (a 0)), (1, .long a0), (3, .long a1), (5, .long a2)]) hx hb dX6_wrongNow_167 hl (by decide) rfl (fun ls hl => ?_)
                      refine lv_iinc (v := nI (k64 + 1)) (lv' := [(12, .int (nI (k64 + 1))), (9, .long z64.2), (7, .long z64.1), (15, .int 0), (13, .long (vM G lg lp (vP G lg lp 0 k - a0) (vP G lg lp 1 k - a1) (vP G lg lp 2 k - a2) k52 k64)), (11, .int (nI k52)), (0, .ref (a 0)), (1, .long a0), (3, .long a1), (5, .long a2)]) hx hb dX6_wrongNow_169 hl (k := 4) rfl (by first | rfl | exact nI_add _ _) (by decide) rfl (fun ls hl => ?_)
                      refine lv_goto (tgt := 64) hx hb dX6_wrongNow_172 (by decide) ?_
                      exact ih64 z64 ((by rw [if_neg h82]; exact (if_neg (fun w => absurd w.1 (Int64.not_le.mpr h104))).symm)) (trivial) ls (lv_sub hl [0, 5, 1, 2, 6, 7, 8, 9] rfl)
                    · exact absurd h157 (by decide)
                  · exact absurd h134 (by decide)
                · refine lv_lload hx hb dX6_wrongNow_108 (lv_at hl 4 rfl) ?_
                  refine lv_ldc2 (v := (-9000000000000000008)) hx hb hown (hts (.constantLong RX6 134 (-9000000000000000008)) (by decide +kernel)) dX6_wrongNow_110 ?_
                  refine rl_ifeq (tgt := 125) hx hb dX6_wrongNow_113 dX6_wrongNow_114 (by decide) (fun h113 => ?_) (fun h113 => ?_)
                  · refine lv_iconst (v := 1) hx hb dX6_wrongNow_125 (by decide) ?_
                    refine lv_goto (tgt := 130) hx hb dX6_wrongNow_126 (by decide) ?_
                    refine lv_istore (lv' := [(15, .int 1), (13, .long (vM G lg lp (vP G lg lp 0 k - a0) (vP G lg lp 1 k - a1) (vP G lg lp 2 k - a2) k52 k64)), (12, .int (nI k64)), (11, .int (nI k52)), (9, .long z64.2), (7, .long z64.1), (0, .ref (a 0)), (1, .long a0), (3, .long a1), (5, .long a2)]) hx hb dX6_wrongNow_130 hl (by decide) rfl (fun ls hl => ?_)
                    refine lv_iload hx hb dX6_wrongNow_132 (lv_at hl 0 rfl) ?_
                    refine rz_eq (tgt := 151) hx hb 1 rfl (by omega) dX6_wrongNow_134 (by decide) (fun h134 => ?_) (fun h134 => ?_)
                    · exact absurd h134 (by decide)
                    · refine lv_ldc2 (v := 100) hx hb hown (hts (.constantLong RX6 186 (100)) (by decide +kernel)) dX6_wrongNow_137 ?_
                      refine lv_iload hx hb dX6_wrongNow_140 (lv_at hl 3 rfl) ?_
                      refine lv_i2l (v := lN k52) hx hb dX6_wrongNow_142 (nI_l (by omega)) ?_
                      refine lv_lmul hx hb dX6_wrongNow_143 ?_
                      refine rw_topl (lN_mul 100 k52) ?_
                      refine lv_iload hx hb dX6_wrongNow_144 (lv_at hl 2 rfl) ?_
                      refine lv_i2l (v := lN k64) hx hb dX6_wrongNow_146 (nI_l (by omega)) ?_
                      refine lv_ladd hx hb dX6_wrongNow_147 ?_
                      refine rw_topl (lN_add (100 * k52) k64) ?_
                      refine lv_goto (tgt := 153) hx hb dX6_wrongNow_148 (by decide) ?_
                      refine lv_lstore (lv' := [(7, .long (lN ((100 * k52) + k64))), (15, .int 1), (13, .long (vM G lg lp (vP G lg lp 0 k - a0) (vP G lg lp 1 k - a1) (vP G lg lp 2 k - a2) k52 k64)), (12, .int (nI k64)), (11, .int (nI k52)), (9, .long z64.2), (0, .ref (a 0)), (1, .long a0), (3, .long a1), (5, .long a2)]) hx hb dX6_wrongNow_153 hl (by decide) rfl (fun ls hl => ?_)
                      refine lv_iload hx hb dX6_wrongNow_155 (lv_at hl 1 rfl) ?_
                      refine rz_eq (tgt := 165) hx hb 1 rfl (by omega) dX6_wrongNow_157 (by decide) (fun h157 => ?_) (fun h157 => ?_)
                      · exact absurd h157 (by decide)
                      · refine lv_lload hx hb dX6_wrongNow_160 (lv_at hl 2 rfl) ?_
                        refine lv_goto (tgt := 167) hx hb dX6_wrongNow_162 (by decide) ?_
                        refine lv_lstore (lv' := [(9, .long (vM G lg lp (vP G lg lp 0 k - a0) (vP G lg lp 1 k - a1) (vP G lg lp 2 k - a2) k52 k64)), (7, .long (lN ((100 * k52) + k64))), (15, .int 1), (13, .long (vM G lg lp (vP G lg lp 0 k - a0) (vP G lg lp 1 k - a1) (vP G lg lp 2 k - a2) k52 k64)), (12, .int (nI k64)), (11, .int (nI k52)), (0, .ref (a 0)), (1, .long a0), (3, .long a1), (5, .long a2)]) hx hb dX6_wrongNow_167 hl (by decide) rfl (fun ls hl => ?_)
                        refine lv_iinc (v := nI (k64 + 1)) (lv' := [(12, .int (nI (k64 + 1))), (9, .long (vM G lg lp (vP G lg lp 0 k - a0) (vP G lg lp 1 k - a1) (vP G lg lp 2 k - a2) k52 k64)), (7, .long (lN ((100 * k52) + k64))), (15, .int 1), (13, .long (vM G lg lp (vP G lg lp 0 k - a0) (vP G lg lp 1 k - a1) (vP G lg lp 2 k - a2) k52 k64)), (11, .int (nI k52)), (0, .ref (a 0)), (1, .long a0), (3, .long a1), (5, .long a2)]) hx hb dX6_wrongNow_169 hl (k := 4) rfl (by first | rfl | exact nI_add _ _) (by decide) rfl (fun ls hl => ?_)
                        refine lv_goto (tgt := 64) hx hb dX6_wrongNow_172 (by decide) ?_
                        exact ih64 (lN ((100 * k52) + k64), vM G lg lp (vP G lg lp 0 k - a0) (vP G lg lp 1 k - a1) (vP G lg lp 2 k - a2) k52 k64) ((by rw [if_neg h82]; exact (if_pos ⟨Int64.not_lt.mp h104, Or.inl h113⟩).symm)) (trivial) ls (lv_sub hl [0, 5, 1, 2, 6, 7, 8, 9] rfl)
                  · refine lv_lload hx hb dX6_wrongNow_117 (lv_at hl 0 rfl) ?_
                    refine lv_lload hx hb dX6_wrongNow_119 (lv_at hl 3 rfl) ?_
                    refine rl_ifge (tgt := 129) hx hb dX6_wrongNow_121 dX6_wrongNow_122 (by decide) (fun h121 => ?_) (fun h121 => ?_)
                    · refine lv_iconst (v := 0) hx hb dX6_wrongNow_129 (by decide) ?_
                      refine lv_istore (lv' := [(15, .int 0), (13, .long (vM G lg lp (vP G lg lp 0 k - a0) (vP G lg lp 1 k - a1) (vP G lg lp 2 k - a2) k52 k64)), (12, .int (nI k64)), (11, .int (nI k52)), (9, .long z64.2), (7, .long z64.1), (0, .ref (a 0)), (1, .long a0), (3, .long a1), (5, .long a2)]) hx hb dX6_wrongNow_130 hl (by decide) rfl (fun ls hl => ?_)
                      refine lv_iload hx hb dX6_wrongNow_132 (lv_at hl 0 rfl) ?_
                      refine rz_eq (tgt := 151) hx hb 0 rfl (by omega) dX6_wrongNow_134 (by decide) (fun h134 => ?_) (fun h134 => ?_)
                      · refine lv_lload hx hb dX6_wrongNow_151 (lv_at hl 5 rfl) ?_
                        refine lv_lstore (lv' := [(7, .long z64.1), (15, .int 0), (13, .long (vM G lg lp (vP G lg lp 0 k - a0) (vP G lg lp 1 k - a1) (vP G lg lp 2 k - a2) k52 k64)), (12, .int (nI k64)), (11, .int (nI k52)), (9, .long z64.2), (0, .ref (a 0)), (1, .long a0), (3, .long a1), (5, .long a2)]) hx hb dX6_wrongNow_153 hl (by decide) rfl (fun ls hl => ?_)
                        refine lv_iload hx hb dX6_wrongNow_155 (lv_at hl 1 rfl) ?_
                        refine rz_eq (tgt := 165) hx hb 0 rfl (by omega) dX6_wrongNow_157 (by decide) (fun h157 => ?_) (fun h157 => ?_)
                        · refine lv_lload hx hb dX6_wrongNow_165 (lv_at hl 5 rfl) ?_
                          refine lv_lstore (lv' := [(9, .long z64.2), (7, .long z64.1), (15, .int 0), (13, .long (vM G lg lp (vP G lg lp 0 k - a0) (vP G lg lp 1 k - a1) (vP G lg lp 2 k - a2) k52 k64)), (12, .int (nI k64)), (11, .int (nI k52)), (0, .ref (a 0)), (1, .long a0), (3, .long a1), (5, .long a2)]) hx hb dX6_wrongNow_167 hl (by decide) rfl (fun ls hl => ?_)
                          refine lv_iinc (v := nI (k64 + 1)) (lv' := [(12, .int (nI (k64 + 1))), (9, .long z64.2), (7, .long z64.1), (15, .int 0), (13, .long (vM G lg lp (vP G lg lp 0 k - a0) (vP G lg lp 1 k - a1) (vP G lg lp 2 k - a2) k52 k64)), (11, .int (nI k52)), (0, .ref (a 0)), (1, .long a0), (3, .long a1), (5, .long a2)]) hx hb dX6_wrongNow_169 hl (k := 4) rfl (by first | rfl | exact nI_add _ _) (by decide) rfl (fun ls hl => ?_)
                          refine lv_goto (tgt := 64) hx hb dX6_wrongNow_172 (by decide) ?_
                          exact ih64 z64 ((by rw [if_neg h82]; exact (if_neg (fun w => w.2.elim h113 h121)).symm)) (trivial) ls (lv_sub hl [0, 5, 1, 2, 6, 7, 8, 9] rfl)
                        · exact absurd h157 (by decide)
                      · exact absurd h134 (by decide)
                    · refine lv_iconst (v := 1) hx hb dX6_wrongNow_125 (by decide) ?_
                      refine lv_goto (tgt := 130) hx hb dX6_wrongNow_126 (by decide) ?_
                      refine lv_istore (lv' := [(15, .int 1), (13, .long (vM G lg lp (vP G lg lp 0 k - a0) (vP G lg lp 1 k - a1) (vP G lg lp 2 k - a2) k52 k64)), (12, .int (nI k64)), (11, .int (nI k52)), (9, .long z64.2), (7, .long z64.1), (0, .ref (a 0)), (1, .long a0), (3, .long a1), (5, .long a2)]) hx hb dX6_wrongNow_130 hl (by decide) rfl (fun ls hl => ?_)
                      refine lv_iload hx hb dX6_wrongNow_132 (lv_at hl 0 rfl) ?_
                      refine rz_eq (tgt := 151) hx hb 1 rfl (by omega) dX6_wrongNow_134 (by decide) (fun h134 => ?_) (fun h134 => ?_)
                      · exact absurd h134 (by decide)
                      · refine lv_ldc2 (v := 100) hx hb hown (hts (.constantLong RX6 186 (100)) (by decide +kernel)) dX6_wrongNow_137 ?_
                        refine lv_iload hx hb dX6_wrongNow_140 (lv_at hl 3 rfl) ?_
                        refine lv_i2l (v := lN k52) hx hb dX6_wrongNow_142 (nI_l (by omega)) ?_
                        refine lv_lmul hx hb dX6_wrongNow_143 ?_
                        refine rw_topl (lN_mul 100 k52) ?_
                        refine lv_iload hx hb dX6_wrongNow_144 (lv_at hl 2 rfl) ?_
                        refine lv_i2l (v := lN k64) hx hb dX6_wrongNow_146 (nI_l (by omega)) ?_
                        refine lv_ladd hx hb dX6_wrongNow_147 ?_
                        refine rw_topl (lN_add (100 * k52) k64) ?_
                        refine lv_goto (tgt := 153) hx hb dX6_wrongNow_148 (by decide) ?_
                        refine lv_lstore (lv' := [(7, .long (lN ((100 * k52) + k64))), (15, .int 1), (13, .long (vM G lg lp (vP G lg lp 0 k - a0) (vP G lg lp 1 k - a1) (vP G lg lp 2 k - a2) k52 k64)), (12, .int (nI k64)), (11, .int (nI k52)), (9, .long z64.2), (0, .ref (a 0)), (1, .long a0), (3, .long a1), (5, .long a2)]) hx hb dX6_wrongNow_153 hl (by decide) rfl (fun ls hl => ?_)
                        refine lv_iload hx hb dX6_wrongNow_155 (lv_at hl 1 rfl) ?_
                        refine rz_eq (tgt := 165) hx hb 1 rfl (by omega) dX6_wrongNow_157 (by decide) (fun h157 => ?_) (fun h157 => ?_)
                        · exact absurd h157 (by decide)
                        · refine lv_lload hx hb dX6_wrongNow_160 (lv_at hl 2 rfl) ?_
                          refine lv_goto (tgt := 167) hx hb dX6_wrongNow_162 (by decide) ?_
                          refine lv_lstore (lv' := [(9, .long (vM G lg lp (vP G lg lp 0 k - a0) (vP G lg lp 1 k - a1) (vP G lg lp 2 k - a2) k52 k64)), (7, .long (lN ((100 * k52) + k64))), (15, .int 1), (13, .long (vM G lg lp (vP G lg lp 0 k - a0) (vP G lg lp 1 k - a1) (vP G lg lp 2 k - a2) k52 k64)), (12, .int (nI k64)), (11, .int (nI k52)), (0, .ref (a 0)), (1, .long a0), (3, .long a1), (5, .long a2)]) hx hb dX6_wrongNow_167 hl (by decide) rfl (fun ls hl => ?_)
                          refine lv_iinc (v := nI (k64 + 1)) (lv' := [(12, .int (nI (k64 + 1))), (9, .long (vM G lg lp (vP G lg lp 0 k - a0) (vP G lg lp 1 k - a1) (vP G lg lp 2 k - a2) k52 k64)), (7, .long (lN ((100 * k52) + k64))), (15, .int 1), (13, .long (vM G lg lp (vP G lg lp 0 k - a0) (vP G lg lp 1 k - a1) (vP G lg lp 2 k - a2) k52 k64)), (11, .int (nI k52)), (0, .ref (a 0)), (1, .long a0), (3, .long a1), (5, .long a2)]) hx hb dX6_wrongNow_169 hl (k := 4) rfl (by first | rfl | exact nI_add _ _) (by decide) rfl (fun ls hl => ?_)
                          refine lv_goto (tgt := 64) hx hb dX6_wrongNow_172 (by decide) ?_
                          exact ih64 (lN ((100 * k52) + k64), vM G lg lp (vP G lg lp 0 k - a0) (vP G lg lp 1 k - a1) (vP G lg lp 2 k - a2) k52 k64) ((by rw [if_neg h82]; exact (if_pos ⟨Int64.not_lt.mp h104, Or.inr h121⟩).symm)) (trivial) ls (lv_sub hl [0, 5, 1, 2, 6, 7, 8, 9] rfl)
              · refine lv_ldc2 (v := (-1)) hx hb hown (hts (.constantLong RX6 203 (-1)) (by decide +kernel)) dX6_wrongNow_85 ?_
                refine lv_goto (tgt := 99) hx hb dX6_wrongNow_88 (by decide) ?_
                refine lv_lstore (lv' := [(13, .long (-1)), (12, .int (nI k64)), (11, .int (nI k52)), (9, .long z64.2), (7, .long z64.1), (0, .ref (a 0)), (1, .long a0), (3, .long a1), (5, .long a2)]) hx hb dX6_wrongNow_99 hl (by decide) rfl (fun ls hl => ?_)
                refine lv_lload hx hb dX6_wrongNow_101 (lv_at hl 0 rfl) ?_
                refine lv_lconst (v := 0) hx hb dX6_wrongNow_103 (by decide) ?_
                refine rl_iflt (tgt := 129) hx hb dX6_wrongNow_104 dX6_wrongNow_105 (by decide) (fun h104 => ?_) (fun h104 => ?_)
                · refine lv_iconst (v := 0) hx hb dX6_wrongNow_129 (by decide) ?_
                  refine lv_istore (lv' := [(15, .int 0), (13, .long (-1)), (12, .int (nI k64)), (11, .int (nI k52)), (9, .long z64.2), (7, .long z64.1), (0, .ref (a 0)), (1, .long a0), (3, .long a1), (5, .long a2)]) hx hb dX6_wrongNow_130 hl (by decide) rfl (fun ls hl => ?_)
                  refine lv_iload hx hb dX6_wrongNow_132 (lv_at hl 0 rfl) ?_
                  refine rz_eq (tgt := 151) hx hb 0 rfl (by omega) dX6_wrongNow_134 (by decide) (fun h134 => ?_) (fun h134 => ?_)
                  · refine lv_lload hx hb dX6_wrongNow_151 (lv_at hl 5 rfl) ?_
                    refine lv_lstore (lv' := [(7, .long z64.1), (15, .int 0), (13, .long (-1)), (12, .int (nI k64)), (11, .int (nI k52)), (9, .long z64.2), (0, .ref (a 0)), (1, .long a0), (3, .long a1), (5, .long a2)]) hx hb dX6_wrongNow_153 hl (by decide) rfl (fun ls hl => ?_)
                    refine lv_iload hx hb dX6_wrongNow_155 (lv_at hl 1 rfl) ?_
                    refine rz_eq (tgt := 165) hx hb 0 rfl (by omega) dX6_wrongNow_157 (by decide) (fun h157 => ?_) (fun h157 => ?_)
                    · refine lv_lload hx hb dX6_wrongNow_165 (lv_at hl 5 rfl) ?_
                      refine lv_lstore (lv' := [(9, .long z64.2), (7, .long z64.1), (15, .int 0), (13, .long (-1)), (12, .int (nI k64)), (11, .int (nI k52)), (0, .ref (a 0)), (1, .long a0), (3, .long a1), (5, .long a2)]) hx hb dX6_wrongNow_167 hl (by decide) rfl (fun ls hl => ?_)
                      refine lv_iinc (v := nI (k64 + 1)) (lv' := [(12, .int (nI (k64 + 1))), (9, .long z64.2), (7, .long z64.1), (15, .int 0), (13, .long (-1)), (11, .int (nI k52)), (0, .ref (a 0)), (1, .long a0), (3, .long a1), (5, .long a2)]) hx hb dX6_wrongNow_169 hl (k := 4) rfl (by first | rfl | exact nI_add _ _) (by decide) rfl (fun ls hl => ?_)
                      refine lv_goto (tgt := 64) hx hb dX6_wrongNow_172 (by decide) ?_
                      exact ih64 z64 ((by rw [if_pos h82]; exact (pick_neg _ _).symm)) (trivial) ls (lv_sub hl [0, 5, 1, 2, 6, 7, 8, 9] rfl)
                    · exact absurd h157 (by decide)
                  · exact absurd h134 (by decide)
                · exact absurd h104 (by decide)
          · refine lv_iload hx hb dX6_wrongNow_64 (lv_at hl 0 rfl) ?_
            refine lv_aload_n hx hb dX6_wrongNow_66 rfl (lv_at hl 4 rfl) ?_
            refine va_get (D := (dC, dI)) (ci := 6) (v := .int (nI n)) (C := RX6) (T := TX6) (N := 18) hx hb hts (by decide +kernel) hown hK hP 0 rfl rfl 2 (by decide) (hts (.fieldLink RX6 35 "AchromatDeskModel" "glasses" "I") (by decide +kernel)) (fun _ h9 => h9) rfl dX6_wrongNow_67 ?_
            refine rn_ge (tgt := 175) hx hb n n rfl rfl (by omega) (by omega) dX6_wrongNow_70 (by decide) (fun h70 => ?_) (fun h70 => ?_)
            · refine lv_iinc (v := nI (k52 + 1)) (lv' := [(11, .int (nI (k52 + 1))), (12, .int (nI n)), (9, .long z64.2), (7, .long z64.1), (0, .ref (a 0)), (1, .long a0), (3, .long a1), (5, .long a2)]) hx hb dX6_wrongNow_175 hl (k := 1) rfl (by first | rfl | exact nI_add _ _) (by decide) rfl (fun ls hl => ?_)
              refine lv_goto (tgt := 52) hx hb dX6_wrongNow_178 (by decide) ?_
              exact ih52 z64 (hz64) (trivial) ls (lv_sub hl [0, 2, 3, 4, 5, 6, 7] rfl)
            · exfalso; omega
      · refine lv_iload hx hb dX6_wrongNow_52 (lv_at hl 0 rfl) ?_
        refine lv_aload_n hx hb dX6_wrongNow_54 rfl (lv_at hl 3 rfl) ?_
        refine va_get (D := (dC, dI)) (ci := 6) (v := .int (nI k)) (C := RX6) (T := TX6) (N := 18) hx hb hts (by decide +kernel) hown hK hP 0 rfl rfl 5 (by decide) (hts (.fieldLink RX6 43 "AchromatDeskModel" "lenses" "I") (by decide +kernel)) (fun _ h9 => h9) rfl dX6_wrongNow_55 ?_
        refine rn_ge (tgt := 181) hx hb k k rfl rfl (by omega) (by omega) dX6_wrongNow_58 (by decide) (fun h58 => ?_) (fun h58 => ?_)
        · refine lv_lload hx hb dX6_wrongNow_181 (lv_at hl 2 rfl) ?_
          exact W.lret hx hb hr (fun t ht hW => ⟨⟨_, (M.1, M.2.1, M.2.2.1, M.2.2.2.1, M.2.2.2.2.1, M.2.2.2.2.2.1, M.2.2.2.2.2.2.1, vp_updL (vp_updL (vp_updL M.2.2.2.2.2.2.2 0 a0) 1 a1) 2 a2), rfl, by rw [hz52]; rfl, by rw [ht]; exact hP, by rw [hAe]; exact hD⟩, hS.F ht⟩) hS.2.2 dX6_wrongNow_183
        · exfalso; omega
    · refine lv_ldc2 (v := (-9000000000000000008)) hx hb hown (hts (.constantLong RX6 134 (-9000000000000000008)) (by decide +kernel)) dX6_wrongNow_15 ?_
      exact W.lret hx hb hr (fun t ht hW => ⟨⟨_, M, rfl, by rw [vWr, wrg_small _ _ _ hL (by omega)], by rw [ht]; exact hP, by rw [hAe]; exact hD⟩, hS.F ht⟩) hS.2.2 dX6_wrongNow_18

set_option maxHeartbeats 4000000 in
set_option maxRecDepth 100000 in
theorem c_X6_findWrongGlass (l : Launch) (dC : Nat → ClassId) (dI : Nat → Nat → Nat) (cI cJ : ClassId) (sz : Nat) (a : Nat → Nat) (bf : Nat → Int32) (ln : Nat) (hln : ln ≤ 28) (G : GL) (n : Nat) (hn : n ≤ 20) (lg lp : Nat → Int32) (k : Nat) (hk : k ≤ 8) (rd : Nat → Int32) (np : Nat) (hp : np ≤ 16) (M : MS) (hG : gOK G n) (hL : lOK lg k n) (hR : rOK rd np) (a0 a1 a2 : Int64) : Met l yX6_findWrongGlass wsX6_findWrongGlass ({ frames := 5, cells := 0, slots := 0, locals := 132 }) (va_Pc [.ref (a 0), .long a0, .long a1, .long a2] (MU (dC, dI) (tyK cI cJ) ([(a 0, .inr (6, [.int (nI ln), .ref (a 1), .int (nI n), .ref (a 2), .ref (a 3), .int (nI k), .ref (a 4), .ref (a 5), .int (nI np), .ref (a 6), .long M.1, .ref (a 7), .int M.2.1, .int M.2.2.1, .int M.2.2.2.1, .int M.2.2.2.2.1, .ref (a 8), .long M.2.2.2.2.2.1])), (a 1, .inl (cI, 28, .inl bf)), (a 2, .inl (cJ, 20, .inr (.inl (gK G)))), (a 3, .inl (cI, 60, .inl (ilv G))), (a 4, .inl (cI, 8, .inl lg)), (a 5, .inl (cI, 8, .inl lp)), (a 6, .inl (cI, 16, .inl rd)), (a 7, .inl (cI, 3, .inl M.2.2.2.2.2.2.1)), (a 8, .inl (cJ, 3, .inr (.inl M.2.2.2.2.2.2.2)))]) sz)) (va_Ql (fun r (_ : MS) => r = sWr G lg lp k n a0 a1 a2) (MB (dC, dI) ([(a 0, .inr (6, [.int (nI ln), .ref (a 1), .int (nI n), .ref (a 2), .ref (a 3), .int (nI k), .ref (a 4), .ref (a 5), .int (nI np), .ref (a 6), .long M.1, .ref (a 7), .int M.2.1, .int M.2.2.1, .int M.2.2.2.1, .int M.2.2.2.2.1, .ref (a 8), .long M.2.2.2.2.2.1])), (a 1, .inl (cI, 28, .inl bf)), (a 2, .inl (cJ, 20, .inr (.inl (gK G)))), (a 3, .inl (cI, 60, .inl (ilv G))), (a 4, .inl (cI, 8, .inl lg)), (a 5, .inl (cI, 8, .inl lp)), (a 6, .inl (cI, 16, .inl rd)), (a 7, .inl (cI, 3, .inl M.2.2.2.2.2.2.1)), (a 8, .inl (cJ, 3, .inr (.inl M.2.2.2.2.2.2.2)))]) sz (fun (u : MS) => [(a 0, .inr (6, [.int (nI ln), .ref (a 1), .int (nI n), .ref (a 2), .ref (a 3), .int (nI k), .ref (a 4), .ref (a 5), .int (nI np), .ref (a 6), .long u.1, .ref (a 7), .int u.2.1, .int u.2.2.1, .int u.2.2.2.1, .int u.2.2.2.2.1, .ref (a 8), .long M.2.2.2.2.2.1])), (a 1, .inl (cI, 28, .inl bf)), (a 2, .inl (cJ, 20, .inr (.inl (gK G)))), (a 3, .inl (cI, 60, .inl (ilv G))), (a 4, .inl (cI, 8, .inl lg)), (a 5, .inl (cI, 8, .inl lp)), (a 6, .inl (cI, 16, .inl rd)), (a 7, .inl (cI, 3, .inl u.2.2.2.2.2.2.1)), (a 8, .inl (cJ, 3, .inr (.inl u.2.2.2.2.2.2.2)))])) (va_A ([(a 0, .inr (6, [.int (nI ln), .ref (a 1), .int (nI n), .ref (a 2), .ref (a 3), .int (nI k), .ref (a 4), .ref (a 5), .int (nI np), .ref (a 6), .long M.1, .ref (a 7), .int M.2.1, .int M.2.2.1, .int M.2.2.2.1, .int M.2.2.2.2.1, .ref (a 8), .long M.2.2.2.2.2.1])), (a 1, .inl (cI, 28, .inl bf)), (a 2, .inl (cJ, 20, .inr (.inl (gK G)))), (a 3, .inl (cI, 60, .inl (ilv G))), (a 4, .inl (cI, 8, .inl lg)), (a 5, .inl (cI, 8, .inl lp)), (a 6, .inl (cI, 16, .inl rd)), (a 7, .inl (cI, 3, .inl M.2.2.2.2.2.2.1)), (a 8, .inl (cJ, 3, .inr (.inl M.2.2.2.2.2.2.2)))]) sz)) 0 0 (va_A ([(a 0, .inr (6, [.int (nI ln), .ref (a 1), .int (nI n), .ref (a 2), .ref (a 3), .int (nI k), .ref (a 4), .ref (a 5), .int (nI np), .ref (a 6), .long M.1, .ref (a 7), .int M.2.1, .int M.2.2.1, .int M.2.2.2.1, .int M.2.2.2.2.1, .ref (a 8), .long M.2.2.2.2.2.1])), (a 1, .inl (cI, 28, .inl bf)), (a 2, .inl (cJ, 20, .inr (.inl (gK G)))), (a 3, .inl (cI, 60, .inl (ilv G))), (a 4, .inl (cI, 8, .inl lg)), (a 5, .inl (cI, 8, .inl lp)), (a 6, .inl (cI, 16, .inl rd)), (a 7, .inl (cI, 3, .inl M.2.2.2.2.2.2.1)), (a 8, .inl (cJ, 3, .inr (.inl M.2.2.2.2.2.2.2)))]) sz) := by
  refine Met.ofW (cc := cX6_findWrongGlass) (maxL := 7) (ret := (some .long)) (by decide) rfl ?_
  intro p e s m args below meth c s₁ B hml hv
  obtain ⟨rfl, hsz, hP, hK, hN, hD0⟩ := hv
  have hx := B.exec
  have hb := B.bytes
  have hr := B.returns
  have hts := atoms_spec (ws := wsX6_findWrongGlass) B.pre
  have hown : s.vm.findClass RX6 = some m.cls := findClass_of_methodNamed B.named
  have hlocks := B.notSynchronized
  subst hsz
  have hD := hD0.self (sz := s.heap.size)
  generalize hAe : va_A ([(a 0, .inr (6, [.int (nI ln), .ref (a 1), .int (nI n), .ref (a 2), .ref (a 3), .int (nI k), .ref (a 4), .ref (a 5), .int (nI np), .ref (a 6), .long M.1, .ref (a 7), .int M.2.1, .int M.2.2.1, .int M.2.2.2.1, .int M.2.2.2.2.1, .ref (a 8), .long M.2.2.2.2.2.1])), (a 1, .inl (cI, 28, .inl bf)), (a 2, .inl (cJ, 20, .inr (.inl (gK G)))), (a 3, .inl (cI, 60, .inl (ilv G))), (a 4, .inl (cI, 8, .inl lg)), (a 5, .inl (cI, 8, .inl lp)), (a 6, .inl (cI, 16, .inl rd)), (a 7, .inl (cI, 3, .inl M.2.2.2.2.2.2.1)), (a 8, .inl (cJ, 3, .inr (.inl M.2.2.2.2.2.2.2)))]) s.heap.size = A at hD ⊢
  have hA : ∀ q : Nat, s.heap.size ≤ q → A q := fun q h => by rw [← hAe]; exact Or.inr h
  have hS : va_S A s.heap s.heap [] := va_S.rf
  have hP : va_P (dC, dI) vwCl [(a 0, .inr (6, [.int (nI ln), .ref (a 1), .int (nI n), .ref (a 2), .ref (a 3), .int (nI k), .ref (a 4), .ref (a 5), .int (nI np), .ref (a 6), .long M.1, .ref (a 7), .int M.2.1, .int M.2.2.1, .int M.2.2.2.1, .int M.2.2.2.2.1, .ref (a 8), .long M.2.2.2.2.2.1])), (a 1, .inl (cI, 28, .inl bf)), (a 2, .inl (cJ, 20, .inr (.inl (gK G)))), (a 3, .inl (cI, 60, .inl (ilv G))), (a 4, .inl (cI, 8, .inl lg)), (a 5, .inl (cI, 8, .inl lp)), (a 6, .inl (cI, 16, .inl rd)), (a 7, .inl (cI, 3, .inl M.2.2.2.2.2.2.1)), (a 8, .inl (cJ, 3, .inr (.inl M.2.2.2.2.2.2.2)))] s.heap := hP
  have hD : va_D A [(a 0, .inr (6, [.int (nI ln), .ref (a 1), .int (nI n), .ref (a 2), .ref (a 3), .int (nI k), .ref (a 4), .ref (a 5), .int (nI np), .ref (a 6), .long M.1, .ref (a 7), .int M.2.1, .int M.2.2.1, .int M.2.2.2.1, .int M.2.2.2.2.1, .ref (a 8), .long M.2.2.2.2.2.1])), (a 1, .inl (cI, 28, .inl bf)), (a 2, .inl (cJ, 20, .inr (.inl (gK G)))), (a 3, .inl (cI, 60, .inl (ilv G))), (a 4, .inl (cI, 8, .inl lg)), (a 5, .inl (cI, 8, .inl lp)), (a 6, .inl (cI, 16, .inl rd)), (a 7, .inl (cI, 3, .inl M.2.2.2.2.2.2.1)), (a 8, .inl (cJ, 3, .inr (.inl M.2.2.2.2.2.2.2)))] := hD
  obtain ⟨H, hH⟩ : ∃ H : Heap, H = s.heap := ⟨_, rfl⟩
  obtain ⟨locs, hlc⟩ : ∃ locs : List Loc, locs = [] := ⟨_, rfl⟩
  have hl := lv_entry ([.ref (a 0), .long a0, .long a1, .long a2]) (n := 7) (Nat.le_of_ble_eq_true rfl)
  rw [lg_entry_eq]
  generalize (lg_sl ([.ref (a 0), .long a0, .long a1, .long a2]) ++ List.replicate (7 - (lg_sl ([.ref (a 0), .long a0, .long a1, .long a2])).length) Slot.unset).toArray = ls at hl ⊢
  have hl : lv_has ls 7 [(0, .ref (a 0)), (1, .long a0), (3, .long a1), (5, .long a2)] := hl
  refine mu_in hH hlc (fun hS hP hD => ?_) hS hP hD
  clear hH hlc
  refine lv_lload_n hx hb dX6_findWrongGlass_0 rfl (lv_at hl 1 rfl) ?_
  refine stSi (As := [.long a0]) (rest := []) (c_X6_isMeasured l a0) ⟨hx, hb, hml, hown, hts⟩ (va_cwS 1 hts gX6_findWrongGlass_X6_isMeasured rfl rfl rfl (by decide +kernel) ⟨Nat.le_of_ble_eq_true rfl, Nat.le_of_ble_eq_true rfl⟩) rfl hl.1 rfl (Nat.le_of_ble_eq_true rfl) dX6_findWrongGlass_1 ⟨Nat.zero_le _, Nat.zero_le _⟩ (fun r hr0 => ?_)
  subst hr0
  refine rb_eq (tgt := 33) hx hb dX6_findWrongGlass_4 (by decide) (fun h4 => ?_) (fun h4 => ?_)
  · refine lv_ldc2 (v := (-9000000000000000001)) hx hb hown (hts (.constantLong RX6 53 (-9000000000000000001)) (by decide +kernel)) dX6_findWrongGlass_33 ?_
    exact W.lret hx hb hr (fun t ht hW => ⟨⟨_, M, rfl, by rw [sWr, if_neg (fun w => h4 w.1)], by rw [ht]; exact hP, by rw [hAe]; exact hD⟩, hS.F ht⟩) hS.2.2 dX6_findWrongGlass_36
  · refine lv_lload_n hx hb dX6_findWrongGlass_7 rfl (lv_at hl 2 rfl) ?_
    refine stSi (As := [.long a1]) (rest := []) (c_X6_isMeasured l a1) ⟨hx, hb, hml, hown, hts⟩ (va_cwS 1 hts gX6_findWrongGlass_X6_isMeasured rfl rfl rfl (by decide +kernel) ⟨Nat.le_of_ble_eq_true rfl, Nat.le_of_ble_eq_true rfl⟩) rfl hl.1 rfl (Nat.le_of_ble_eq_true rfl) dX6_findWrongGlass_8 ⟨Nat.zero_le _, Nat.zero_le _⟩ (fun r hr0 => ?_)
    subst hr0
    refine rb_eq (tgt := 33) hx hb dX6_findWrongGlass_11 (by decide) (fun h11 => ?_) (fun h11 => ?_)
    · refine lv_ldc2 (v := (-9000000000000000001)) hx hb hown (hts (.constantLong RX6 53 (-9000000000000000001)) (by decide +kernel)) dX6_findWrongGlass_33 ?_
      exact W.lret hx hb hr (fun t ht hW => ⟨⟨_, M, rfl, by rw [sWr, if_neg (fun w => h11 w.2.1)], by rw [ht]; exact hP, by rw [hAe]; exact hD⟩, hS.F ht⟩) hS.2.2 dX6_findWrongGlass_36
    · refine lv_lload hx hb dX6_findWrongGlass_14 (lv_at hl 3 rfl) ?_
      refine stSi (As := [.long a2]) (rest := []) (c_X6_isMeasured l a2) ⟨hx, hb, hml, hown, hts⟩ (va_cwS 1 hts gX6_findWrongGlass_X6_isMeasured rfl rfl rfl (by decide +kernel) ⟨Nat.le_of_ble_eq_true rfl, Nat.le_of_ble_eq_true rfl⟩) rfl hl.1 rfl (Nat.le_of_ble_eq_true rfl) dX6_findWrongGlass_16 ⟨Nat.zero_le _, Nat.zero_le _⟩ (fun r hr0 => ?_)
      subst hr0
      refine rb_eq (tgt := 33) hx hb dX6_findWrongGlass_19 (by decide) (fun h19 => ?_) (fun h19 => ?_)
      · refine lv_ldc2 (v := (-9000000000000000001)) hx hb hown (hts (.constantLong RX6 53 (-9000000000000000001)) (by decide +kernel)) dX6_findWrongGlass_33 ?_
        exact W.lret hx hb hr (fun t ht hW => ⟨⟨_, M, rfl, by rw [sWr, if_neg (fun w => h19 w.2.2)], by rw [ht]; exact hP, by rw [hAe]; exact hD⟩, hS.F ht⟩) hS.2.2 dX6_findWrongGlass_36
      · refine lv_aload_n hx hb dX6_findWrongGlass_22 rfl (lv_at hl 0 rfl) ?_
        refine lv_lload_n hx hb dX6_findWrongGlass_23 rfl (lv_at hl 1 rfl) ?_
        refine lv_lload_n hx hb dX6_findWrongGlass_24 rfl (lv_at hl 2 rfl) ?_
        refine lv_lload hx hb dX6_findWrongGlass_25 (lv_at hl 3 rfl) ?_
        refine muVl (As := [.long a0, .long a1, .long a2]) (rest := []) (wr := []) (c_X6_wrongNow l dC dI cI cJ H.size a bf ln (by omega) G n (by omega) lg lp k (by omega) rd np (by omega) M hG hL hR a0 a1 a2) ⟨hx, hb, hml, hown, hts⟩ (cwV 3 hts gX6_findWrongGlass_X6_wrongNow rfl rfl rfl (by decide +kernel) ⟨Nat.le_of_ble_eq_true rfl, Nat.le_of_ble_eq_true rfl⟩) hP hD hS hA hK hN [0, 1, 2, 3, 4, 5, 6, 7, 8] [] rfl rfl (by decide) rfl (by decide) (by decide) (ci := 6) rfl rfl rfl hl.1 rfl (Nat.le_of_ble_eq_true rfl) dX6_findWrongGlass_27 ⟨Nat.le_of_ble_eq_true rfl, Nat.le_of_ble_eq_true rfl⟩ (fun r u H locs hr0 hP hD hS => ?_)
        have hP := hP.sub (ws' := [(a 0, .inr (6, [.int (nI ln), .ref (a 1), .int (nI n), .ref (a 2), .ref (a 3), .int (nI k), .ref (a 4), .ref (a 5), .int (nI np), .ref (a 6), .long u.1, .ref (a 7), .int u.2.1, .int u.2.2.1, .int u.2.2.2.1, .int u.2.2.2.2.1, .ref (a 8), .long M.2.2.2.2.2.1])), (a 1, .inl (cI, 28, .inl bf)), (a 2, .inl (cJ, 20, .inr (.inl (gK G)))), (a 3, .inl (cI, 60, .inl (ilv G))), (a 4, .inl (cI, 8, .inl lg)), (a 5, .inl (cI, 8, .inl lp)), (a 6, .inl (cI, 16, .inl rd)), (a 7, .inl (cI, 3, .inl u.2.2.2.2.2.2.1)), (a 8, .inl (cJ, 3, .inr (.inl u.2.2.2.2.2.2.2)))]) [0, 1, 2, 3, 4, 5, 6, 7, 8] rfl
        have hD := hD.sub (ws' := [(a 0, .inr (6, [.int (nI ln), .ref (a 1), .int (nI n), .ref (a 2), .ref (a 3), .int (nI k), .ref (a 4), .ref (a 5), .int (nI np), .ref (a 6), .long u.1, .ref (a 7), .int u.2.1, .int u.2.2.1, .int u.2.2.2.1, .int u.2.2.2.2.1, .ref (a 8), .long M.2.2.2.2.2.1])), (a 1, .inl (cI, 28, .inl bf)), (a 2, .inl (cJ, 20, .inr (.inl (gK G)))), (a 3, .inl (cI, 60, .inl (ilv G))), (a 4, .inl (cI, 8, .inl lg)), (a 5, .inl (cI, 8, .inl lp)), (a 6, .inl (cI, 16, .inl rd)), (a 7, .inl (cI, 3, .inl u.2.2.2.2.2.2.1)), (a 8, .inl (cJ, 3, .inr (.inl u.2.2.2.2.2.2.2)))]) [0, 1, 2, 3, 4, 5, 6, 7, 8] (by decide) rfl
        subst hr0
        refine lv_goto (tgt := 36) hx hb dX6_findWrongGlass_30 (by decide) ?_
        exact W.lret hx hb hr (fun t ht hW => ⟨⟨_, u, rfl, by rw [sWr, if_pos ⟨h4, h11, h19⟩], by rw [ht]; exact hP, by rw [hAe]; exact hD⟩, hS.F ht⟩) hS.2.2 dX6_findWrongGlass_36

set_option maxHeartbeats 4000000 in
set_option maxRecDepth 100000 in
theorem c_X6_mix (l : Launch) (dC : Nat → ClassId) (dI : Nat → Nat → Nat) (cI cJ : ClassId) (sz : Nat) (a : Nat → Nat) (bf : Nat → Int32) (ln : Nat) (hln : ln ≤ 28) (G : GL) (n : Nat) (hn : n ≤ 20) (lg lp : Nat → Int32) (k : Nat) (hk : k ≤ 8) (rd : Nat → Int32) (np : Nat) (hp : np ≤ 16) (M : MS) (hG : gOK G n) (hL : lOK lg k n) (hR : rOK rd np) (v : Int64) : Met l yX6_mix wsX6_mix ({ frames := 0, cells := 0, slots := 0, locals := 0 }) (va_Pc [.ref (a 0), .long v] (MU (dC, dI) (tyK cI cJ) ([(a 0, .inr (6, [.int (nI ln), .ref (a 1), .int (nI n), .ref (a 2), .ref (a 3), .int (nI k), .ref (a 4), .ref (a 5), .int (nI np), .ref (a 6), .long M.1, .ref (a 7), .int M.2.1, .int M.2.2.1, .int M.2.2.2.1, .int M.2.2.2.2.1, .ref (a 8), .long M.2.2.2.2.2.1])), (a 1, .inl (cI, 28, .inl bf)), (a 2, .inl (cJ, 20, .inr (.inl (gK G)))), (a 3, .inl (cI, 60, .inl (ilv G))), (a 4, .inl (cI, 8, .inl lg)), (a 5, .inl (cI, 8, .inl lp)), (a 6, .inl (cI, 16, .inl rd)), (a 7, .inl (cI, 3, .inl M.2.2.2.2.2.2.1)), (a 8, .inl (cJ, 3, .inr (.inl M.2.2.2.2.2.2.2)))]) sz)) (va_Qv (fun _ => True) (MB (dC, dI) ([(a 0, .inr (6, [.int (nI ln), .ref (a 1), .int (nI n), .ref (a 2), .ref (a 3), .int (nI k), .ref (a 4), .ref (a 5), .int (nI np), .ref (a 6), .long M.1, .ref (a 7), .int M.2.1, .int M.2.2.1, .int M.2.2.2.1, .int M.2.2.2.2.1, .ref (a 8), .long M.2.2.2.2.2.1])), (a 1, .inl (cI, 28, .inl bf)), (a 2, .inl (cJ, 20, .inr (.inl (gK G)))), (a 3, .inl (cI, 60, .inl (ilv G))), (a 4, .inl (cI, 8, .inl lg)), (a 5, .inl (cI, 8, .inl lp)), (a 6, .inl (cI, 16, .inl rd)), (a 7, .inl (cI, 3, .inl M.2.2.2.2.2.2.1)), (a 8, .inl (cJ, 3, .inr (.inl M.2.2.2.2.2.2.2)))]) sz (fun (_ : Unit) => [(a 0, .inr (6, [.int (nI ln), .ref (a 1), .int (nI n), .ref (a 2), .ref (a 3), .int (nI k), .ref (a 4), .ref (a 5), .int (nI np), .ref (a 6), .long M.1, .ref (a 7), .int M.2.1, .int M.2.2.1, .int M.2.2.2.1, .int M.2.2.2.2.1, .ref (a 8), .long (mixL M.2.2.2.2.2.1 v)])), (a 1, .inl (cI, 28, .inl bf)), (a 2, .inl (cJ, 20, .inr (.inl (gK G)))), (a 3, .inl (cI, 60, .inl (ilv G))), (a 4, .inl (cI, 8, .inl lg)), (a 5, .inl (cI, 8, .inl lp)), (a 6, .inl (cI, 16, .inl rd)), (a 7, .inl (cI, 3, .inl M.2.2.2.2.2.2.1)), (a 8, .inl (cJ, 3, .inr (.inl M.2.2.2.2.2.2.2)))])) (va_A ([(a 0, .inr (6, [.int (nI ln), .ref (a 1), .int (nI n), .ref (a 2), .ref (a 3), .int (nI k), .ref (a 4), .ref (a 5), .int (nI np), .ref (a 6), .long M.1, .ref (a 7), .int M.2.1, .int M.2.2.1, .int M.2.2.2.1, .int M.2.2.2.2.1, .ref (a 8), .long M.2.2.2.2.2.1])), (a 1, .inl (cI, 28, .inl bf)), (a 2, .inl (cJ, 20, .inr (.inl (gK G)))), (a 3, .inl (cI, 60, .inl (ilv G))), (a 4, .inl (cI, 8, .inl lg)), (a 5, .inl (cI, 8, .inl lp)), (a 6, .inl (cI, 16, .inl rd)), (a 7, .inl (cI, 3, .inl M.2.2.2.2.2.2.1)), (a 8, .inl (cJ, 3, .inr (.inl M.2.2.2.2.2.2.2)))]) sz)) 0 0 (va_A ([(a 0, .inr (6, [.int (nI ln), .ref (a 1), .int (nI n), .ref (a 2), .ref (a 3), .int (nI k), .ref (a 4), .ref (a 5), .int (nI np), .ref (a 6), .long M.1, .ref (a 7), .int M.2.1, .int M.2.2.1, .int M.2.2.2.1, .int M.2.2.2.2.1, .ref (a 8), .long M.2.2.2.2.2.1])), (a 1, .inl (cI, 28, .inl bf)), (a 2, .inl (cJ, 20, .inr (.inl (gK G)))), (a 3, .inl (cI, 60, .inl (ilv G))), (a 4, .inl (cI, 8, .inl lg)), (a 5, .inl (cI, 8, .inl lp)), (a 6, .inl (cI, 16, .inl rd)), (a 7, .inl (cI, 3, .inl M.2.2.2.2.2.2.1)), (a 8, .inl (cJ, 3, .inr (.inl M.2.2.2.2.2.2.2)))]) sz) := by
  refine Met.ofW (cc := cX6_mix) (maxL := 3) (ret := none) (by decide) rfl ?_
  intro p e s m args below meth c s₁ B hml hv
  obtain ⟨rfl, hsz, hP, hK, hN, hD0⟩ := hv
  have hx := B.exec
  have hb := B.bytes
  have hr := B.returns
  have hts := atoms_spec (ws := wsX6_mix) B.pre
  have hown : s.vm.findClass RX6 = some m.cls := findClass_of_methodNamed B.named
  have hlocks := B.notSynchronized
  subst hsz
  have hD := hD0.self (sz := s.heap.size)
  generalize hAe : va_A ([(a 0, .inr (6, [.int (nI ln), .ref (a 1), .int (nI n), .ref (a 2), .ref (a 3), .int (nI k), .ref (a 4), .ref (a 5), .int (nI np), .ref (a 6), .long M.1, .ref (a 7), .int M.2.1, .int M.2.2.1, .int M.2.2.2.1, .int M.2.2.2.2.1, .ref (a 8), .long M.2.2.2.2.2.1])), (a 1, .inl (cI, 28, .inl bf)), (a 2, .inl (cJ, 20, .inr (.inl (gK G)))), (a 3, .inl (cI, 60, .inl (ilv G))), (a 4, .inl (cI, 8, .inl lg)), (a 5, .inl (cI, 8, .inl lp)), (a 6, .inl (cI, 16, .inl rd)), (a 7, .inl (cI, 3, .inl M.2.2.2.2.2.2.1)), (a 8, .inl (cJ, 3, .inr (.inl M.2.2.2.2.2.2.2)))]) s.heap.size = A at hD ⊢
  have hA : ∀ q : Nat, s.heap.size ≤ q → A q := fun q h => by rw [← hAe]; exact Or.inr h
  have hS : va_S A s.heap s.heap [] := va_S.rf
  have hP : va_P (dC, dI) vwCl [(a 0, .inr (6, [.int (nI ln), .ref (a 1), .int (nI n), .ref (a 2), .ref (a 3), .int (nI k), .ref (a 4), .ref (a 5), .int (nI np), .ref (a 6), .long M.1, .ref (a 7), .int M.2.1, .int M.2.2.1, .int M.2.2.2.1, .int M.2.2.2.2.1, .ref (a 8), .long M.2.2.2.2.2.1])), (a 1, .inl (cI, 28, .inl bf)), (a 2, .inl (cJ, 20, .inr (.inl (gK G)))), (a 3, .inl (cI, 60, .inl (ilv G))), (a 4, .inl (cI, 8, .inl lg)), (a 5, .inl (cI, 8, .inl lp)), (a 6, .inl (cI, 16, .inl rd)), (a 7, .inl (cI, 3, .inl M.2.2.2.2.2.2.1)), (a 8, .inl (cJ, 3, .inr (.inl M.2.2.2.2.2.2.2)))] s.heap := hP
  have hD : va_D A [(a 0, .inr (6, [.int (nI ln), .ref (a 1), .int (nI n), .ref (a 2), .ref (a 3), .int (nI k), .ref (a 4), .ref (a 5), .int (nI np), .ref (a 6), .long M.1, .ref (a 7), .int M.2.1, .int M.2.2.1, .int M.2.2.2.1, .int M.2.2.2.2.1, .ref (a 8), .long M.2.2.2.2.2.1])), (a 1, .inl (cI, 28, .inl bf)), (a 2, .inl (cJ, 20, .inr (.inl (gK G)))), (a 3, .inl (cI, 60, .inl (ilv G))), (a 4, .inl (cI, 8, .inl lg)), (a 5, .inl (cI, 8, .inl lp)), (a 6, .inl (cI, 16, .inl rd)), (a 7, .inl (cI, 3, .inl M.2.2.2.2.2.2.1)), (a 8, .inl (cJ, 3, .inr (.inl M.2.2.2.2.2.2.2)))] := hD
  obtain ⟨H, hH⟩ : ∃ H : Heap, H = s.heap := ⟨_, rfl⟩
  obtain ⟨locs, hlc⟩ : ∃ locs : List Loc, locs = [] := ⟨_, rfl⟩
  have hl := lv_entry ([.ref (a 0), .long v]) (n := 3) (Nat.le_of_ble_eq_true rfl)
  rw [lg_entry_eq]
  generalize (lg_sl ([.ref (a 0), .long v]) ++ List.replicate (3 - (lg_sl ([.ref (a 0), .long v])).length) Slot.unset).toArray = ls at hl ⊢
  have hl : lv_has ls 3 [(0, .ref (a 0)), (1, .long v)] := hl
  refine mu_in hH hlc (fun hS hP hD => ?_) hS hP hD
  clear hH hlc
  refine lv_aload_n hx hb dX6_mix_0 rfl (lv_at hl 0 rfl) ?_
  refine lv_ldc2 (v := 31) hx hb hown (hts (.constantLong RX6 258 (31)) (by decide +kernel)) dX6_mix_1 ?_
  refine lv_aload_n hx hb dX6_mix_4 rfl (lv_at hl 0 rfl) ?_
  refine va_get (D := (dC, dI)) (ci := 6) (v := .long M.2.2.2.2.2.1) (C := RX6) (T := TX6) (N := 18) hx hb hts (by decide +kernel) hown hK hP 0 rfl rfl 17 (by decide) (hts (.fieldLink RX6 260 "AchromatDeskModel" "h" "J") (by decide +kernel)) (fun _ h9 => h9) rfl dX6_mix_5 ?_
  refine lv_lmul hx hb dX6_mix_8 ?_
  refine lv_lload_n hx hb dX6_mix_9 rfl (lv_at hl 1 rfl) ?_
  refine lv_ladd hx hb dX6_mix_10 ?_
  refine va_put (D := (dC, dI)) (ci := 6) (v := .long ((31 * M.2.2.2.2.2.1) + v)) (ty := .long) (C := RX6) (T := TX6) (N := 18) hx hb hts (by decide +kernel) tyX6 tyX6_ok nmX6 hown hK hP hD hS 0 rfl rfl 17 (by decide) (hts (.fieldLink RX6 260 "AchromatDeskModel" "h" "J") (by decide +kernel)) (fun _ h9 => h9) rfl (by decide +kernel) rfl rfl (Nat.le_of_ble_eq_true rfl) dX6_mix_11 (fun H locs hP hD hS => ?_)
  have hP : va_P (dC, dI) vwCl [(a 0, .inr (6, [.int (nI ln), .ref (a 1), .int (nI n), .ref (a 2), .ref (a 3), .int (nI k), .ref (a 4), .ref (a 5), .int (nI np), .ref (a 6), .long M.1, .ref (a 7), .int M.2.1, .int M.2.2.1, .int M.2.2.2.1, .int M.2.2.2.2.1, .ref (a 8), .long ((31 * M.2.2.2.2.2.1) + v)])), (a 1, .inl (cI, 28, .inl bf)), (a 2, .inl (cJ, 20, .inr (.inl (gK G)))), (a 3, .inl (cI, 60, .inl (ilv G))), (a 4, .inl (cI, 8, .inl lg)), (a 5, .inl (cI, 8, .inl lp)), (a 6, .inl (cI, 16, .inl rd)), (a 7, .inl (cI, 3, .inl M.2.2.2.2.2.2.1)), (a 8, .inl (cJ, 3, .inr (.inl M.2.2.2.2.2.2.2)))] H := hP
  have hD : va_D A [(a 0, .inr (6, [.int (nI ln), .ref (a 1), .int (nI n), .ref (a 2), .ref (a 3), .int (nI k), .ref (a 4), .ref (a 5), .int (nI np), .ref (a 6), .long M.1, .ref (a 7), .int M.2.1, .int M.2.2.1, .int M.2.2.2.1, .int M.2.2.2.2.1, .ref (a 8), .long ((31 * M.2.2.2.2.2.1) + v)])), (a 1, .inl (cI, 28, .inl bf)), (a 2, .inl (cJ, 20, .inr (.inl (gK G)))), (a 3, .inl (cI, 60, .inl (ilv G))), (a 4, .inl (cI, 8, .inl lg)), (a 5, .inl (cI, 8, .inl lp)), (a 6, .inl (cI, 16, .inl rd)), (a 7, .inl (cI, 3, .inl M.2.2.2.2.2.2.1)), (a 8, .inl (cJ, 3, .inr (.inl M.2.2.2.2.2.2.2)))] := hD
  exact W.vret hx hb hr (fun t ht hW => ⟨⟨(), rfl, trivial, by rw [ht]; exact hP, by rw [hAe]; exact hD⟩, hS.F ht⟩) hS.2.2 dX6_mix_14
