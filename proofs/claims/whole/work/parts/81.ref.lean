set_option maxHeartbeats 4000000 in
set_option maxRecDepth 100000 in
theorem c_X6_isDoublet (l : Launch) (dC : Nat → ClassId) (dI : Nat → Nat → Nat) (cI cJ : ClassId) (a : Nat → Nat) (bf : Nat → Int32) (ln : Nat) (hln : ln ≤ 28) (G : GL) (n : Nat) (hn : n ≤ 20) (lg lp : Nat → Int32) (k : Nat) (hk : k ≤ 8) (rd : Nat → Int32) (np : Nat) (hp : np ≤ 16) (M : MS) (hG : gOK G n) (hL : lOK lg k n) (hR : rOK rd np) (i j : Nat) (hi : i < n) (hj : j < n) : Met l yX6_isDoublet wsX6_isDoublet ({ frames := 2, cells := 0, slots := 0, locals := 43 }) (va_Pc [.ref (a 0), .int (nI i), .int (nI j)] (RO (dC, dI) (tyK cI cJ) ([(a 0, .inr (6, [.int (nI ln), .ref (a 1), .int (nI n), .ref (a 2), .ref (a 3), .int (nI k), .ref (a 4), .ref (a 5), .int (nI np), .ref (a 6), .long M.1, .ref (a 7), .int M.2.1, .int M.2.2.1, .int M.2.2.2.1, .int M.2.2.2.2.1, .ref (a 8), .long M.2.2.2.2.2.1])), (a 1, .inl (cI, 28, .inl bf)), (a 2, .inl (cJ, 20, .inr (.inl (gK G)))), (a 3, .inl (cI, 60, .inl (ilv G))), (a 4, .inl (cI, 8, .inl lg)), (a 5, .inl (cI, 8, .inl lp)), (a 6, .inl (cI, 16, .inl rd)), (a 7, .inl (cI, 3, .inl M.2.2.2.2.2.2.1)), (a 8, .inl (cJ, 3, .inr (.inl M.2.2.2.2.2.2.2)))]))) (vp_Si (fun r => r = if 0 < vE G i j then 1 else 0)) 0 0 (fun _ => False) := by
  refine Met.ofW (cc := cX6_isDoublet) (maxL := 3) (ret := (some .boolean)) (by decide) rfl ?_
  intro p e s m args below meth c s₁ B hml hv
  obtain ⟨rfl, hP, hK, hN⟩ := hv
  have hx := B.exec
  have hb := B.bytes
  have hr := B.returns
  have hts := atoms_spec (ws := wsX6_isDoublet) B.pre
  have hown : s.vm.findClass RX6 = some m.cls := findClass_of_methodNamed B.named
  have hlocks := B.notSynchronized
  have hP : va_P (dC, dI) vwCl [(a 0, .inr (6, [.int (nI ln), .ref (a 1), .int (nI n), .ref (a 2), .ref (a 3), .int (nI k), .ref (a 4), .ref (a 5), .int (nI np), .ref (a 6), .long M.1, .ref (a 7), .int M.2.1, .int M.2.2.1, .int M.2.2.2.1, .int M.2.2.2.2.1, .ref (a 8), .long M.2.2.2.2.2.1])), (a 1, .inl (cI, 28, .inl bf)), (a 2, .inl (cJ, 20, .inr (.inl (gK G)))), (a 3, .inl (cI, 60, .inl (ilv G))), (a 4, .inl (cI, 8, .inl lg)), (a 5, .inl (cI, 8, .inl lp)), (a 6, .inl (cI, 16, .inl rd)), (a 7, .inl (cI, 3, .inl M.2.2.2.2.2.2.1)), (a 8, .inl (cJ, 3, .inr (.inl M.2.2.2.2.2.2.2)))] s.heap := hP
  have hl := lv_entry ([.ref (a 0), .int (nI i), .int (nI j)]) (n := 3) (Nat.le_of_ble_eq_true rfl)
  rw [lg_entry_eq]
  generalize (lg_sl ([.ref (a 0), .int (nI i), .int (nI j)]) ++ List.replicate (3 - (lg_sl ([.ref (a 0), .int (nI i), .int (nI j)])).length) Slot.unset).toArray = ls at hl ⊢
  have hl : lv_has ls 3 [(0, .ref (a 0)), (1, .int (nI i)), (2, .int (nI j))] := hl
  refine lv_iload_n hx hb dX6_isDoublet_0 rfl (lv_at hl 1 rfl) ?_
  refine lv_iload_n hx hb dX6_isDoublet_1 rfl (lv_at hl 2 rfl) ?_
  refine rn_eq (tgt := 20) hx hb i j rfl rfl (by omega) (by omega) dX6_isDoublet_2 (by decide) (fun h2 => ?_) (fun h2 => ?_)
  · refine lv_iconst (v := 0) hx hb dX6_isDoublet_20 (by decide) ?_
    exact W.zret hx hb hr (by decide) (fun t ht hW => ⟨_, rfl, (if_neg (vE_irr h2)).symm, ht⟩) (fun _ h => absurd h List.not_mem_nil) dX6_isDoublet_21
  · refine lv_aload_n hx hb dX6_isDoublet_5 rfl (lv_at hl 0 rfl) ?_
    refine lv_iload_n hx hb dX6_isDoublet_6 rfl (lv_at hl 1 rfl) ?_
    refine lv_iload_n hx hb dX6_isDoublet_7 rfl (lv_at hl 2 rfl) ?_
    refine roVl (As := [.int (nI i), .int (nI j)]) (rest := []) (c_X6_e l dC dI cI cJ a bf ln (by omega) G n (by omega) lg lp k (by omega) rd np (by omega) M hG hL hR i j (by omega) (by omega)) ⟨hx, hb, hml, hown, hts⟩ (cwV 2 hts gX6_isDoublet_X6_e rfl rfl rfl (by decide +kernel) ⟨Nat.le_of_ble_eq_true rfl, Nat.le_of_ble_eq_true rfl⟩) (hP.sub [0, 1, 2, 3, 4, 5, 6, 7, 8] rfl) hK hN (ci := 6) rfl rfl rfl hl.1 rfl (Nat.le_of_ble_eq_true rfl) dX6_isDoublet_8 ⟨Nat.zero_le _, Nat.zero_le _⟩ (fun r hr0 => ?_)
    subst hr0
    refine lv_lconst (v := 0) hx hb dX6_isDoublet_11 (by decide) ?_
    refine rl_ifle (tgt := 20) hx hb dX6_isDoublet_12 dX6_isDoublet_13 (by decide) (fun h12 => ?_) (fun h12 => ?_)
    · refine lv_iconst (v := 0) hx hb dX6_isDoublet_20 (by decide) ?_
      exact W.zret hx hb hr (by decide) (fun t ht hW => ⟨_, rfl, (if_neg h12).symm, ht⟩) (fun _ h => absurd h List.not_mem_nil) dX6_isDoublet_21
    · refine lv_iconst (v := 1) hx hb dX6_isDoublet_16 (by decide) ?_
      refine lv_goto (tgt := 21) hx hb dX6_isDoublet_17 (by decide) ?_
      exact W.zret hx hb hr (by decide) (fun t ht hW => ⟨_, rfl, (if_pos h12).symm, ht⟩) (fun _ h => absurd h List.not_mem_nil) dX6_isDoublet_21

set_option maxHeartbeats 4000000 in
set_option maxRecDepth 100000 in
theorem c_X6_isBefore (l : Launch) (dC : Nat → ClassId) (dI : Nat → Nat → Nat) (cI cJ : ClassId) (a : Nat → Nat) (bf : Nat → Int32) (ln : Nat) (hln : ln ≤ 28) (G : GL) (n : Nat) (hn : n ≤ 20) (lg lp : Nat → Int32) (k : Nat) (hk : k ≤ 8) (rd : Nat → Int32) (np : Nat) (hp : np ≤ 16) (M : MS) (hG : gOK G n) (hL : lOK lg k n) (hR : rOK rd np) (i j u l0 : Nat) (hi : i < n) (hj : j < n) (hu : u < n) (hl0 : l0 < n) (bs : Int32) : Met l yX6_isBefore wsX6_isBefore ({ frames := 2, cells := 0, slots := 0, locals := 43 }) (va_Pc [.ref (a 0), .int (nI i), .int (nI j), .int (nI u), .int (nI l0), .int bs] (RO (dC, dI) (tyK cI cJ) ([(a 0, .inr (6, [.int (nI ln), .ref (a 1), .int (nI n), .ref (a 2), .ref (a 3), .int (nI k), .ref (a 4), .ref (a 5), .int (nI np), .ref (a 6), .long M.1, .ref (a 7), .int M.2.1, .int M.2.2.1, .int M.2.2.2.1, .int M.2.2.2.2.1, .ref (a 8), .long M.2.2.2.2.2.1])), (a 1, .inl (cI, 28, .inl bf)), (a 2, .inl (cJ, 20, .inr (.inl (gK G)))), (a 3, .inl (cI, 60, .inl (ilv G))), (a 4, .inl (cI, 8, .inl lg)), (a 5, .inl (cI, 8, .inl lp)), (a 6, .inl (cI, 16, .inl rd)), (a 7, .inl (cI, 3, .inl M.2.2.2.2.2.2.1)), (a 8, .inl (cJ, 3, .inr (.inl M.2.2.2.2.2.2.2)))]))) (vp_Si (fun r => r = if befM G bs i j u l0 then 1 else 0)) 0 0 (fun _ => False) := by
  refine Met.ofW (cc := cX6_isBefore) (maxL := 14) (ret := (some .boolean)) (by decide) rfl ?_
  intro p e s m args below meth c s₁ B hml hv
  obtain ⟨rfl, hP, hK, hN⟩ := hv
  have hx := B.exec
  have hb := B.bytes
  have hr := B.returns
  have hts := atoms_spec (ws := wsX6_isBefore) B.pre
  have hown : s.vm.findClass RX6 = some m.cls := findClass_of_methodNamed B.named
  have hlocks := B.notSynchronized
  have hP : va_P (dC, dI) vwCl [(a 0, .inr (6, [.int (nI ln), .ref (a 1), .int (nI n), .ref (a 2), .ref (a 3), .int (nI k), .ref (a 4), .ref (a 5), .int (nI np), .ref (a 6), .long M.1, .ref (a 7), .int M.2.1, .int M.2.2.1, .int M.2.2.2.1, .int M.2.2.2.2.1, .ref (a 8), .long M.2.2.2.2.2.1])), (a 1, .inl (cI, 28, .inl bf)), (a 2, .inl (cJ, 20, .inr (.inl (gK G)))), (a 3, .inl (cI, 60, .inl (ilv G))), (a 4, .inl (cI, 8, .inl lg)), (a 5, .inl (cI, 8, .inl lp)), (a 6, .inl (cI, 16, .inl rd)), (a 7, .inl (cI, 3, .inl M.2.2.2.2.2.2.1)), (a 8, .inl (cJ, 3, .inr (.inl M.2.2.2.2.2.2.2)))] s.heap := hP
  have hl := lv_entry ([.ref (a 0), .int (nI i), .int (nI j), .int (nI u), .int (nI l0), .int bs]) (n := 14) (Nat.le_of_ble_eq_true rfl)
  rw [lg_entry_eq]
  generalize (lg_sl ([.ref (a 0), .int (nI i), .int (nI j), .int (nI u), .int (nI l0), .int bs]) ++ List.replicate (14 - (lg_sl ([.ref (a 0), .int (nI i), .int (nI j), .int (nI u), .int (nI l0), .int bs])).length) Slot.unset).toArray = ls at hl ⊢
  have hl : lv_has ls 14 [(0, .ref (a 0)), (1, .int (nI i)), (2, .int (nI j)), (3, .int (nI u)), (4, .int (nI l0)), (5, .int bs)] := hl
  refine lv_aload_n hx hb dX6_isBefore_0 rfl (lv_at hl 0 rfl) ?_
  refine lv_iload_n hx hb dX6_isBefore_1 rfl (lv_at hl 1 rfl) ?_
  refine lv_iload_n hx hb dX6_isBefore_2 rfl (lv_at hl 2 rfl) ?_
  refine roVl (As := [.int (nI i), .int (nI j)]) (rest := []) (c_X6_spectrum l dC dI cI cJ a bf ln (by omega) G n (by omega) lg lp k (by omega) rd np (by omega) M hG hL hR i j (by omega) (by omega)) ⟨hx, hb, hml, hown, hts⟩ (cwV 2 hts gX6_isBefore_X6_spectrum rfl rfl rfl (by decide +kernel) ⟨Nat.le_of_ble_eq_true rfl, Nat.le_of_ble_eq_true rfl⟩) (hP.sub [0, 1, 2, 3, 4, 5, 6, 7, 8] rfl) hK hN (ci := 6) rfl rfl rfl hl.1 rfl (Nat.le_of_ble_eq_true rfl) dX6_isBefore_3 ⟨Nat.zero_le _, Nat.zero_le _⟩ (fun r hr0 => ?_)
  subst hr0
  refine stSl (As := [.long (vX G j i)]) (rest := []) (c_X6_size l (vX G j i)) ⟨hx, hb, hml, hown, hts⟩ (va_cwS 1 hts gX6_isBefore_X6_size rfl rfl rfl (by decide +kernel) ⟨Nat.le_of_ble_eq_true rfl, Nat.le_of_ble_eq_true rfl⟩) rfl hl.1 rfl (Nat.le_of_ble_eq_true rfl) dX6_isBefore_6 ⟨Nat.zero_le _, Nat.zero_le _⟩ (fun r hr0 => ?_)
  subst hr0
  refine lv_aload_n hx hb dX6_isBefore_9 rfl (lv_at hl 0 rfl) ?_
  refine lv_iload_n hx hb dX6_isBefore_10 rfl (lv_at hl 1 rfl) ?_
  refine lv_iload_n hx hb dX6_isBefore_11 rfl (lv_at hl 2 rfl) ?_
  refine roVl (As := [.int (nI i), .int (nI j)]) (rest := [.long (labs (vX G j i))]) (c_X6_e l dC dI cI cJ a bf ln (by omega) G n (by omega) lg lp k (by omega) rd np (by omega) M hG hL hR i j (by omega) (by omega)) ⟨hx, hb, hml, hown, hts⟩ (cwV 2 hts gX6_isBefore_X6_e rfl rfl rfl (by decide +kernel) ⟨Nat.le_of_ble_eq_true rfl, Nat.le_of_ble_eq_true rfl⟩) (hP.sub [0, 1, 2, 3, 4, 5, 6, 7, 8] rfl) hK hN (ci := 6) rfl rfl rfl hl.1 rfl (Nat.le_of_ble_eq_true rfl) dX6_isBefore_12 ⟨Nat.zero_le _, Nat.zero_le _⟩ (fun r hr0 => ?_)
  subst hr0
  refine lv_aload_n hx hb dX6_isBefore_15 rfl (lv_at hl 0 rfl) ?_
  refine lv_iload_n hx hb dX6_isBefore_16 rfl (lv_at hl 3 rfl) ?_
  refine lv_iload hx hb dX6_isBefore_17 (lv_at hl 4 rfl) ?_
  refine roVl (As := [.int (nI u), .int (nI l0)]) (rest := [.long (vE G i j), .long (labs (vX G j i))]) (c_X6_spectrum l dC dI cI cJ a bf ln (by omega) G n (by omega) lg lp k (by omega) rd np (by omega) M hG hL hR u l0 (by omega) (by omega)) ⟨hx, hb, hml, hown, hts⟩ (cwV 2 hts gX6_isBefore_X6_spectrum rfl rfl rfl (by decide +kernel) ⟨Nat.le_of_ble_eq_true rfl, Nat.le_of_ble_eq_true rfl⟩) (hP.sub [0, 1, 2, 3, 4, 5, 6, 7, 8] rfl) hK hN (ci := 6) rfl rfl rfl hl.1 rfl (Nat.le_of_ble_eq_true rfl) dX6_isBefore_19 ⟨Nat.zero_le _, Nat.zero_le _⟩ (fun r hr0 => ?_)
  subst hr0
  refine stSl (As := [.long (vX G l0 u)]) (rest := [.long (vE G i j), .long (labs (vX G j i))]) (c_X6_size l (vX G l0 u)) ⟨hx, hb, hml, hown, hts⟩ (va_cwS 1 hts gX6_isBefore_X6_size rfl rfl rfl (by decide +kernel) ⟨Nat.le_of_ble_eq_true rfl, Nat.le_of_ble_eq_true rfl⟩) rfl hl.1 rfl (Nat.le_of_ble_eq_true rfl) dX6_isBefore_22 ⟨Nat.zero_le _, Nat.zero_le _⟩ (fun r hr0 => ?_)
  subst hr0
  refine lv_aload_n hx hb dX6_isBefore_25 rfl (lv_at hl 0 rfl) ?_
  refine lv_iload_n hx hb dX6_isBefore_26 rfl (lv_at hl 3 rfl) ?_
  refine lv_iload hx hb dX6_isBefore_27 (lv_at hl 4 rfl) ?_
  refine roVl (As := [.int (nI u), .int (nI l0)]) (rest := [.long (labs (vX G l0 u)), .long (vE G i j), .long (labs (vX G j i))]) (c_X6_e l dC dI cI cJ a bf ln (by omega) G n (by omega) lg lp k (by omega) rd np (by omega) M hG hL hR u l0 (by omega) (by omega)) ⟨hx, hb, hml, hown, hts⟩ (cwV 2 hts gX6_isBefore_X6_e rfl rfl rfl (by decide +kernel) ⟨Nat.le_of_ble_eq_true rfl, Nat.le_of_ble_eq_true rfl⟩) (hP.sub [0, 1, 2, 3, 4, 5, 6, 7, 8] rfl) hK hN (ci := 6) rfl rfl rfl hl.1 rfl (Nat.le_of_ble_eq_true rfl) dX6_isBefore_29 ⟨Nat.zero_le _, Nat.zero_le _⟩ (fun r hr0 => ?_)
  subst hr0
  refine stSl (As := [.long (labs (vX G j i)), .long (vE G i j), .long (labs (vX G l0 u)), .long (vE G u l0)]) (rest := []) (c_X6_compare l (labs (vX G j i)) (vE G i j) (labs (vX G l0 u)) (vE G u l0)) ⟨hx, hb, hml, hown, hts⟩ (va_cwS 4 hts gX6_isBefore_X6_compare rfl rfl rfl (by decide +kernel) ⟨Nat.le_of_ble_eq_true rfl, Nat.le_of_ble_eq_true rfl⟩) rfl hl.1 rfl (Nat.le_of_ble_eq_true rfl) dX6_isBefore_32 ⟨Nat.zero_le _, Nat.zero_le _⟩ (fun r hr0 => ?_)
  subst hr0
  refine lv_lstore (lv' := [(6, .long (cSp G i j u l0)), (0, .ref (a 0)), (1, .int (nI i)), (2, .int (nI j)), (3, .int (nI u)), (4, .int (nI l0)), (5, .int bs)]) hx hb dX6_isBefore_35 hl (by decide) rfl (fun ls hl => ?_)
  refine lv_aload_n hx hb dX6_isBefore_37 rfl (lv_at hl 1 rfl) ?_
  refine lv_iload_n hx hb dX6_isBefore_38 rfl (lv_at hl 2 rfl) ?_
  refine lv_iload_n hx hb dX6_isBefore_39 rfl (lv_at hl 3 rfl) ?_
  refine roVl (As := [.int (nI i), .int (nI j)]) (rest := []) (c_X6_strain l dC dI cI cJ a bf ln (by omega) G n (by omega) lg lp k (by omega) rd np (by omega) M hG hL hR i j (by omega) (by omega)) ⟨hx, hb, hml, hown, hts⟩ (cwV 2 hts gX6_isBefore_X6_strain rfl rfl rfl (by decide +kernel) ⟨Nat.le_of_ble_eq_true rfl, Nat.le_of_ble_eq_true rfl⟩) (hP.sub [0, 1, 2, 3, 4, 5, 6, 7, 8] rfl) hK hN (ci := 6) rfl rfl rfl hl.1 rfl (Nat.le_of_ble_eq_true rfl) dX6_isBefore_40 ⟨Nat.zero_le _, Nat.zero_le _⟩ (fun r hr0 => ?_)
  subst hr0
  refine lv_aload_n hx hb dX6_isBefore_43 rfl (lv_at hl 1 rfl) ?_
  refine lv_iload_n hx hb dX6_isBefore_44 rfl (lv_at hl 2 rfl) ?_
  refine lv_iload_n hx hb dX6_isBefore_45 rfl (lv_at hl 3 rfl) ?_
  refine roVl (As := [.int (nI i), .int (nI j)]) (rest := [.long (vStr G i j)]) (c_X6_e l dC dI cI cJ a bf ln (by omega) G n (by omega) lg lp k (by omega) rd np (by omega) M hG hL hR i j (by omega) (by omega)) ⟨hx, hb, hml, hown, hts⟩ (cwV 2 hts gX6_isBefore_X6_e rfl rfl rfl (by decide +kernel) ⟨Nat.le_of_ble_eq_true rfl, Nat.le_of_ble_eq_true rfl⟩) (hP.sub [0, 1, 2, 3, 4, 5, 6, 7, 8] rfl) hK hN (ci := 6) rfl rfl rfl hl.1 rfl (Nat.le_of_ble_eq_true rfl) dX6_isBefore_46 ⟨Nat.zero_le _, Nat.zero_le _⟩ (fun r hr0 => ?_)
  subst hr0
  refine lv_aload_n hx hb dX6_isBefore_49 rfl (lv_at hl 1 rfl) ?_
  refine lv_iload_n hx hb dX6_isBefore_50 rfl (lv_at hl 4 rfl) ?_
  refine lv_iload hx hb dX6_isBefore_51 (lv_at hl 5 rfl) ?_
  refine roVl (As := [.int (nI u), .int (nI l0)]) (rest := [.long (vE G i j), .long (vStr G i j)]) (c_X6_strain l dC dI cI cJ a bf ln (by omega) G n (by omega) lg lp k (by omega) rd np (by omega) M hG hL hR u l0 (by omega) (by omega)) ⟨hx, hb, hml, hown, hts⟩ (cwV 2 hts gX6_isBefore_X6_strain rfl rfl rfl (by decide +kernel) ⟨Nat.le_of_ble_eq_true rfl, Nat.le_of_ble_eq_true rfl⟩) (hP.sub [0, 1, 2, 3, 4, 5, 6, 7, 8] rfl) hK hN (ci := 6) rfl rfl rfl hl.1 rfl (Nat.le_of_ble_eq_true rfl) dX6_isBefore_53 ⟨Nat.zero_le _, Nat.zero_le _⟩ (fun r hr0 => ?_)
  subst hr0
  refine lv_aload_n hx hb dX6_isBefore_56 rfl (lv_at hl 1 rfl) ?_
  refine lv_iload_n hx hb dX6_isBefore_57 rfl (lv_at hl 4 rfl) ?_
  refine lv_iload hx hb dX6_isBefore_58 (lv_at hl 5 rfl) ?_
  refine roVl (As := [.int (nI u), .int (nI l0)]) (rest := [.long (vStr G u l0), .long (vE G i j), .long (vStr G i j)]) (c_X6_e l dC dI cI cJ a bf ln (by omega) G n (by omega) lg lp k (by omega) rd np (by omega) M hG hL hR u l0 (by omega) (by omega)) ⟨hx, hb, hml, hown, hts⟩ (cwV 2 hts gX6_isBefore_X6_e rfl rfl rfl (by decide +kernel) ⟨Nat.le_of_ble_eq_true rfl, Nat.le_of_ble_eq_true rfl⟩) (hP.sub [0, 1, 2, 3, 4, 5, 6, 7, 8] rfl) hK hN (ci := 6) rfl rfl rfl hl.1 rfl (Nat.le_of_ble_eq_true rfl) dX6_isBefore_60 ⟨Nat.zero_le _, Nat.zero_le _⟩ (fun r hr0 => ?_)
  subst hr0
  refine stSl (As := [.long (vStr G i j), .long (vE G i j), .long (vStr G u l0), .long (vE G u l0)]) (rest := []) (c_X6_compare l (vStr G i j) (vE G i j) (vStr G u l0) (vE G u l0)) ⟨hx, hb, hml, hown, hts⟩ (va_cwS 4 hts gX6_isBefore_X6_compare rfl rfl rfl (by decide +kernel) ⟨Nat.le_of_ble_eq_true rfl, Nat.le_of_ble_eq_true rfl⟩) rfl hl.1 rfl (Nat.le_of_ble_eq_true rfl) dX6_isBefore_63 ⟨Nat.zero_le _, Nat.zero_le _⟩ (fun r hr0 => ?_)
  subst hr0
  refine lv_lstore (lv' := [(8, .long (cSt G i j u l0)), (6, .long (cSp G i j u l0)), (0, .ref (a 0)), (1, .int (nI i)), (2, .int (nI j)), (3, .int (nI u)), (4, .int (nI l0)), (5, .int bs)]) hx hb dX6_isBefore_66 hl (by decide) rfl (fun ls hl => ?_)
  refine rjoin (nL := 14) 80 [(8, .long (cSt G i j u l0)), (6, .long (cSp G i j u l0)), (0, .ref (a 0)), (1, .int (nI i)), (2, .int (nI j)), (3, .int (nI u)), (4, .int (nI l0)), (5, .int bs)] [.long (if bs = 0 then cSp G i j u l0 else cSt G i j u l0)] (fun ls hl => ?_) (fun hj80 => ?_)
  · refine lv_lstore (lv' := [(10, .long (if bs = 0 then cSp G i j u l0 else cSt G i j u l0)), (8, .long (cSt G i j u l0)), (6, .long (cSp G i j u l0)), (0, .ref (a 0)), (1, .int (nI i)), (2, .int (nI j)), (3, .int (nI u)), (4, .int (nI l0)), (5, .int bs)]) hx hb dX6_isBefore_80 hl (by decide) rfl (fun ls hl => ?_)
    refine rjoin (nL := 14) 94 [(10, .long (if bs = 0 then cSp G i j u l0 else cSt G i j u l0)), (8, .long (cSt G i j u l0)), (6, .long (cSp G i j u l0)), (0, .ref (a 0)), (1, .int (nI i)), (2, .int (nI j)), (3, .int (nI u)), (4, .int (nI l0)), (5, .int bs)] [.long (if bs = 0 then cSt G i j u l0 else cSp G i j u l0)] (fun ls hl => ?_) (fun hj94 => ?_)
    · refine lv_lstore (lv' := [(12, .long (if bs = 0 then cSt G i j u l0 else cSp G i j u l0)), (10, .long (if bs = 0 then cSp G i j u l0 else cSt G i j u l0)), (8, .long (cSt G i j u l0)), (6, .long (cSp G i j u l0)), (0, .ref (a 0)), (1, .int (nI i)), (2, .int (nI j)), (3, .int (nI u)), (4, .int (nI l0)), (5, .int bs)]) hx hb dX6_isBefore_94 hl (by decide) rfl (fun ls hl => ?_)
      refine lv_lload hx hb dX6_isBefore_96 (lv_at hl 1 rfl) ?_
      refine lv_lconst (v := 0) hx hb dX6_isBefore_98 (by decide) ?_
      refine rl_ifeq (tgt := 116) hx hb dX6_isBefore_99 dX6_isBefore_100 (by decide) (fun h99 => ?_) (fun h99 => ?_)
      · refine lv_lload hx hb dX6_isBefore_116 (lv_at hl 0 rfl) ?_
        refine lv_lconst (v := 0) hx hb dX6_isBefore_118 (by decide) ?_
        refine rl_ifeq (tgt := 136) hx hb dX6_isBefore_119 dX6_isBefore_120 (by decide) (fun h119 => ?_) (fun h119 => ?_)
        · refine lv_iload_n hx hb dX6_isBefore_136 rfl (lv_at hl 5 rfl) ?_
          refine lv_iload_n hx hb dX6_isBefore_137 rfl (lv_at hl 7 rfl) ?_
          refine rn_ne (tgt := 155) hx hb i u rfl rfl (by omega) (by omega) dX6_isBefore_138 (by decide) (fun h138 => ?_) (fun h138 => ?_)
          · refine lv_iload_n hx hb dX6_isBefore_155 rfl (lv_at hl 5 rfl) ?_
            refine lv_iload_n hx hb dX6_isBefore_156 rfl (lv_at hl 7 rfl) ?_
            refine rn_ge (tgt := 164) hx hb i u rfl rfl (by omega) (by omega) dX6_isBefore_157 (by decide) (fun h157 => ?_) (fun h157 => ?_)
            · refine lv_iconst (v := 0) hx hb dX6_isBefore_164 (by decide) ?_
              exact W.zret hx hb hr (by decide) (fun t ht hW => ⟨_, rfl, (if_neg (fun w => w.elim (fun w => absurd w (lt0_of h99)) (fun w => w.2.elim (fun w => absurd w (lt0_of h119)) (fun w => w.2.elim (fun w => by omega) (fun w => by omega))))).symm, ht⟩) (fun _ h => absurd h List.not_mem_nil) dX6_isBefore_165
            · refine lv_iconst (v := 1) hx hb dX6_isBefore_160 (by decide) ?_
              refine lv_goto (tgt := 165) hx hb dX6_isBefore_161 (by decide) ?_
              exact W.zret hx hb hr (by decide) (fun t ht hW => ⟨_, rfl, (if_pos (Or.inr ⟨h99, Or.inr ⟨h119, Or.inl h157⟩⟩)).symm, ht⟩) (fun _ h => absurd h List.not_mem_nil) dX6_isBefore_165
          · refine lv_iload_n hx hb dX6_isBefore_141 rfl (lv_at hl 6 rfl) ?_
            refine lv_iload hx hb dX6_isBefore_142 (lv_at hl 8 rfl) ?_
            refine rn_ge (tgt := 151) hx hb j l0 rfl rfl (by omega) (by omega) dX6_isBefore_144 (by decide) (fun h144 => ?_) (fun h144 => ?_)
            · refine lv_iconst (v := 0) hx hb dX6_isBefore_151 (by decide) ?_
              refine lv_goto (tgt := 165) hx hb dX6_isBefore_152 (by decide) ?_
              exact W.zret hx hb hr (by decide) (fun t ht hW => ⟨_, rfl, (if_neg (fun w => w.elim (fun w => absurd w (lt0_of h99)) (fun w => w.2.elim (fun w => absurd w (lt0_of h119)) (fun w => w.2.elim (fun w => by omega) (fun w => by omega))))).symm, ht⟩) (fun _ h => absurd h List.not_mem_nil) dX6_isBefore_165
            · refine lv_iconst (v := 1) hx hb dX6_isBefore_147 (by decide) ?_
              refine lv_goto (tgt := 165) hx hb dX6_isBefore_148 (by decide) ?_
              exact W.zret hx hb hr (by decide) (fun t ht hW => ⟨_, rfl, (if_pos (Or.inr ⟨h99, Or.inr ⟨h119, Or.inr ⟨h138, h144⟩⟩⟩)).symm, ht⟩) (fun _ h => absurd h List.not_mem_nil) dX6_isBefore_165
        · refine lv_lload hx hb dX6_isBefore_123 (lv_at hl 0 rfl) ?_
          refine lv_lconst (v := 0) hx hb dX6_isBefore_125 (by decide) ?_
          refine rl_ifge (tgt := 134) hx hb dX6_isBefore_126 dX6_isBefore_127 (by decide) (fun h126 => ?_) (fun h126 => ?_)
          · refine lv_iconst (v := 0) hx hb dX6_isBefore_134 (by decide) ?_
            exact W.zret hx hb hr (by decide) (fun t ht hW => ⟨_, rfl, (if_neg (fun w => w.elim (fun w => absurd w (lt0_of h99)) (fun w => w.2.elim h126 (fun w => h119 w.1)))).symm, ht⟩) (fun _ h => absurd h List.not_mem_nil) dX6_isBefore_135
          · refine lv_iconst (v := 1) hx hb dX6_isBefore_130 (by decide) ?_
            refine lv_goto (tgt := 135) hx hb dX6_isBefore_131 (by decide) ?_
            exact W.zret hx hb hr (by decide) (fun t ht hW => ⟨_, rfl, (if_pos (Or.inr ⟨h99, Or.inl h126⟩)).symm, ht⟩) (fun _ h => absurd h List.not_mem_nil) dX6_isBefore_135
      · refine lv_lload hx hb dX6_isBefore_103 (lv_at hl 1 rfl) ?_
        refine lv_lconst (v := 0) hx hb dX6_isBefore_105 (by decide) ?_
        refine rl_ifge (tgt := 114) hx hb dX6_isBefore_106 dX6_isBefore_107 (by decide) (fun h106 => ?_) (fun h106 => ?_)
        · refine lv_iconst (v := 0) hx hb dX6_isBefore_114 (by decide) ?_
          exact W.zret hx hb hr (by decide) (fun t ht hW => ⟨_, rfl, (if_neg (fun w => w.elim h106 (fun w => h99 w.1))).symm, ht⟩) (fun _ h => absurd h List.not_mem_nil) dX6_isBefore_115
        · refine lv_iconst (v := 1) hx hb dX6_isBefore_110 (by decide) ?_
          refine lv_goto (tgt := 115) hx hb dX6_isBefore_111 (by decide) ?_
          exact W.zret hx hb hr (by decide) (fun t ht hW => ⟨_, rfl, (if_pos (Or.inl h106)).symm, ht⟩) (fun _ h => absurd h List.not_mem_nil) dX6_isBefore_115
    · refine lv_iload hx hb dX6_isBefore_82 (lv_at hl 8 rfl) ?_
      refine lv_if_eq (tgt := 92) hx hb dX6_isBefore_84 (by decide) (fun h84 => ?_) (fun h84 => ?_)
      · refine lv_lload hx hb dX6_isBefore_92 (lv_at hl 1 rfl) ?_
        refine rw_topl (show (cSt G i j u l0 : Int64) = (if bs = 0 then cSt G i j u l0 else cSp G i j u l0 : Int64) from by first | rw [if_pos h84] | rw [if_neg h84]) ?_
        exact hj94 ls (lv_sub hl [0, 1, 2, 3, 4, 5, 6, 7, 8] rfl)
      · refine lv_lload hx hb dX6_isBefore_87 (lv_at hl 2 rfl) ?_
        refine lv_goto (tgt := 94) hx hb dX6_isBefore_89 (by decide) ?_
        refine rw_topl (show (cSp G i j u l0 : Int64) = (if bs = 0 then cSt G i j u l0 else cSp G i j u l0 : Int64) from by first | rw [if_pos h84] | rw [if_neg h84]) ?_
        exact hj94 ls (lv_sub hl [0, 1, 2, 3, 4, 5, 6, 7, 8] rfl)
  · refine lv_iload hx hb dX6_isBefore_68 (lv_at hl 7 rfl) ?_
    refine lv_if_eq (tgt := 78) hx hb dX6_isBefore_70 (by decide) (fun h70 => ?_) (fun h70 => ?_)
    · refine lv_lload hx hb dX6_isBefore_78 (lv_at hl 1 rfl) ?_
      refine rw_topl (show (cSp G i j u l0 : Int64) = (if bs = 0 then cSp G i j u l0 else cSt G i j u l0 : Int64) from by first | rw [if_pos h70] | rw [if_neg h70]) ?_
      exact hj80 ls (lv_sub hl [0, 1, 2, 3, 4, 5, 6, 7] rfl)
    · refine lv_lload hx hb dX6_isBefore_73 (lv_at hl 0 rfl) ?_
      refine lv_goto (tgt := 80) hx hb dX6_isBefore_75 (by decide) ?_
      refine rw_topl (show (cSt G i j u l0 : Int64) = (if bs = 0 then cSp G i j u l0 else cSt G i j u l0 : Int64) from by first | rw [if_pos h70] | rw [if_neg h70]) ?_
      exact hj80 ls (lv_sub hl [0, 1, 2, 3, 4, 5, 6, 7] rfl)

set_option maxHeartbeats 4000000 in
set_option maxRecDepth 100000 in
theorem c_X6_tripletNow (l : Launch) (dC : Nat → ClassId) (dI : Nat → Nat → Nat) (cI cJ : ClassId) (a : Nat → Nat) (bf : Nat → Int32) (ln : Nat) (hln : ln ≤ 28) (G : GL) (n : Nat) (hn : n ≤ 20) (lg lp : Nat → Int32) (k : Nat) (hk : k ≤ 8) (rd : Nat → Int32) (np : Nat) (hp : np ≤ 16) (M : MS) (hG : gOK G n) (hL : lOK lg k n) (hR : rOK rd np) (i j z : Nat) (hi : i < n) (hj : j < n) (hz : z < n) (w v : Int32) (hT : ¬ vTT G i j z = 0) : Met l yX6_tripletNow wsX6_tripletNow ({ frames := 3, cells := 0, slots := 0, locals := 66 }) (va_Pc [.ref (a 0), .int (nI i), .int (nI j), .int (nI z), .int w, .int v] (RO (dC, dI) (tyK cI cJ) ([(a 0, .inr (6, [.int (nI ln), .ref (a 1), .int (nI n), .ref (a 2), .ref (a 3), .int (nI k), .ref (a 4), .ref (a 5), .int (nI np), .ref (a 6), .long M.1, .ref (a 7), .int M.2.1, .int M.2.2.1, .int M.2.2.2.1, .int M.2.2.2.2.1, .ref (a 8), .long M.2.2.2.2.2.1])), (a 1, .inl (cI, 28, .inl bf)), (a 2, .inl (cJ, 20, .inr (.inl (gK G)))), (a 3, .inl (cI, 60, .inl (ilv G))), (a 4, .inl (cI, 8, .inl lg)), (a 5, .inl (cI, 8, .inl lp)), (a 6, .inl (cI, 16, .inl rd)), (a 7, .inl (cI, 3, .inl M.2.2.2.2.2.2.1)), (a 8, .inl (cJ, 3, .inr (.inl M.2.2.2.2.2.2.2)))]))) (vp_Sl (fun r => r = fq (w.toInt64 * (if v = 0 then vT G i j z else if v = 1 then vT G j z i else vT G z i j)) (vTT G i j z))) 0 0 (fun _ => False) := by
  refine Met.ofW (cc := cX6_tripletNow) (maxL := 8) (ret := (some .long)) (by decide) rfl ?_
  intro p e s m args below meth c s₁ B hml hv
  obtain ⟨rfl, hP, hK, hN⟩ := hv
  have hx := B.exec
  have hb := B.bytes
  have hr := B.returns
  have hts := atoms_spec (ws := wsX6_tripletNow) B.pre
  have hown : s.vm.findClass RX6 = some m.cls := findClass_of_methodNamed B.named
  have hlocks := B.notSynchronized
  have hP : va_P (dC, dI) vwCl [(a 0, .inr (6, [.int (nI ln), .ref (a 1), .int (nI n), .ref (a 2), .ref (a 3), .int (nI k), .ref (a 4), .ref (a 5), .int (nI np), .ref (a 6), .long M.1, .ref (a 7), .int M.2.1, .int M.2.2.1, .int M.2.2.2.1, .int M.2.2.2.2.1, .ref (a 8), .long M.2.2.2.2.2.1])), (a 1, .inl (cI, 28, .inl bf)), (a 2, .inl (cJ, 20, .inr (.inl (gK G)))), (a 3, .inl (cI, 60, .inl (ilv G))), (a 4, .inl (cI, 8, .inl lg)), (a 5, .inl (cI, 8, .inl lp)), (a 6, .inl (cI, 16, .inl rd)), (a 7, .inl (cI, 3, .inl M.2.2.2.2.2.2.1)), (a 8, .inl (cJ, 3, .inr (.inl M.2.2.2.2.2.2.2)))] s.heap := hP
  have hl := lv_entry ([.ref (a 0), .int (nI i), .int (nI j), .int (nI z), .int w, .int v]) (n := 8) (Nat.le_of_ble_eq_true rfl)
  rw [lg_entry_eq]
  generalize (lg_sl ([.ref (a 0), .int (nI i), .int (nI j), .int (nI z), .int w, .int v]) ++ List.replicate (8 - (lg_sl ([.ref (a 0), .int (nI i), .int (nI j), .int (nI z), .int w, .int v])).length) Slot.unset).toArray = ls at hl ⊢
  have hl : lv_has ls 8 [(0, .ref (a 0)), (1, .int (nI i)), (2, .int (nI j)), (3, .int (nI z)), (4, .int w), (5, .int v)] := hl
  refine rjoin (nL := 8) 53 [(0, .ref (a 0)), (1, .int (nI i)), (2, .int (nI j)), (3, .int (nI z)), (4, .int w), (5, .int v)] [.long (if v = 0 then vT G i j z else if v = 1 then vT G j z i else vT G z i j)] (fun ls hl => ?_) (fun hj53 => ?_)
  · refine lv_lstore (lv' := [(6, .long (if v = 0 then vT G i j z else if v = 1 then vT G j z i else vT G z i j)), (0, .ref (a 0)), (1, .int (nI i)), (2, .int (nI j)), (3, .int (nI z)), (4, .int w), (5, .int v)]) hx hb dX6_tripletNow_53 hl (by decide) rfl (fun ls hl => ?_)
    refine lv_iload hx hb dX6_tripletNow_55 (lv_at hl 5 rfl) ?_
    refine lv_i2l (v := w.toInt64) hx hb dX6_tripletNow_57 rfl ?_
    refine lv_lload hx hb dX6_tripletNow_58 (lv_at hl 0 rfl) ?_
    refine lv_lmul hx hb dX6_tripletNow_60 ?_
    refine lv_aload_n hx hb dX6_tripletNow_61 rfl (lv_at hl 1 rfl) ?_
    refine lv_iload_n hx hb dX6_tripletNow_62 rfl (lv_at hl 2 rfl) ?_
    refine lv_iload_n hx hb dX6_tripletNow_63 rfl (lv_at hl 3 rfl) ?_
    refine lv_iload_n hx hb dX6_tripletNow_64 rfl (lv_at hl 4 rfl) ?_
    refine roVl (As := [.int (nI i), .int (nI j), .int (nI z)]) (rest := [.long (w.toInt64 * (if v = 0 then vT G i j z else if v = 1 then vT G j z i else vT G z i j))]) (c_X6_t l dC dI cI cJ a bf ln (by omega) G n (by omega) lg lp k (by omega) rd np (by omega) M hG hL hR i j z (by omega) (by omega) (by omega)) ⟨hx, hb, hml, hown, hts⟩ (cwV 3 hts gX6_tripletNow_X6_t rfl rfl rfl (by decide +kernel) ⟨Nat.le_of_ble_eq_true rfl, Nat.le_of_ble_eq_true rfl⟩) (hP.sub [0, 1, 2, 3, 4, 5, 6, 7, 8] rfl) hK hN (ci := 6) rfl rfl rfl hl.1 rfl (Nat.le_of_ble_eq_true rfl) dX6_tripletNow_65 ⟨Nat.zero_le _, Nat.zero_le _⟩ (fun r hr0 => ?_)
    subst hr0
    refine stSl (As := [.long (w.toInt64 * (if v = 0 then vT G i j z else if v = 1 then vT G j z i else vT G z i j)), .long (vTT G i j z)]) (rest := []) (c_X6_floor l (w.toInt64 * (if v = 0 then vT G i j z else if v = 1 then vT G j z i else vT G z i j)) (vTT G i j z) (by assumption)) ⟨hx, hb, hml, hown, hts⟩ (va_cwS 2 hts gX6_tripletNow_X6_floor rfl rfl rfl (by decide +kernel) ⟨Nat.le_of_ble_eq_true rfl, Nat.le_of_ble_eq_true rfl⟩) rfl hl.1 rfl (Nat.le_of_ble_eq_true rfl) dX6_tripletNow_68 ⟨Nat.zero_le _, Nat.zero_le _⟩ (fun r hr0 => ?_)
    subst hr0
    exact W.lret hx hb hr (fun t ht hW => ⟨_, rfl, rfl, ht⟩) (fun _ h => absurd h List.not_mem_nil) dX6_tripletNow_71
  · refine lv_iload hx hb dX6_tripletNow_0 (lv_at hl 5 rfl) ?_
    refine lv_if_ne (tgt := 20) hx hb dX6_tripletNow_2 (by decide) (fun h2 => ?_) (fun h2 => ?_)
    · refine lv_iload hx hb dX6_tripletNow_20 (lv_at hl 5 rfl) ?_
      refine lv_iconst (v := 1) hx hb dX6_tripletNow_22 (by decide) ?_
      refine lv_icmp_ne (tgt := 41) hx hb dX6_tripletNow_23 (by decide) (fun h23 => ?_) (fun h23 => ?_)
      · refine lv_aload_n hx hb dX6_tripletNow_41 rfl (lv_at hl 0 rfl) ?_
        refine lv_iload_n hx hb dX6_tripletNow_42 rfl (lv_at hl 3 rfl) ?_
        refine roVl (As := [.int (nI z)]) (rest := []) (c_X6_a l dC dI cI cJ a bf ln (by omega) G n (by omega) lg lp k (by omega) rd np (by omega) M hG hL hR z (by omega)) ⟨hx, hb, hml, hown, hts⟩ (cwV 1 hts gX6_tripletNow_X6_a rfl rfl rfl (by decide +kernel) ⟨Nat.le_of_ble_eq_true rfl, Nat.le_of_ble_eq_true rfl⟩) (hP.sub [0, 1, 2, 3, 4, 5, 6, 7, 8] rfl) hK hN (ci := 6) rfl rfl rfl hl.1 rfl (Nat.le_of_ble_eq_true rfl) dX6_tripletNow_43 ⟨Nat.zero_le _, Nat.zero_le _⟩ (fun r hr0 => ?_)
        subst hr0
        refine lv_aload_n hx hb dX6_tripletNow_46 rfl (lv_at hl 0 rfl) ?_
        refine lv_iload_n hx hb dX6_tripletNow_47 rfl (lv_at hl 1 rfl) ?_
        refine lv_iload_n hx hb dX6_tripletNow_48 rfl (lv_at hl 2 rfl) ?_
        refine roVl (As := [.int (nI i), .int (nI j)]) (rest := [.long (vA G z)]) (c_X6_x l dC dI cI cJ a bf ln (by omega) G n (by omega) lg lp k (by omega) rd np (by omega) M hG hL hR i j (by omega) (by omega)) ⟨hx, hb, hml, hown, hts⟩ (cwV 2 hts gX6_tripletNow_X6_x rfl rfl rfl (by decide +kernel) ⟨Nat.le_of_ble_eq_true rfl, Nat.le_of_ble_eq_true rfl⟩) (hP.sub [0, 1, 2, 3, 4, 5, 6, 7, 8] rfl) hK hN (ci := 6) rfl rfl rfl hl.1 rfl (Nat.le_of_ble_eq_true rfl) dX6_tripletNow_49 ⟨Nat.zero_le _, Nat.zero_le _⟩ (fun r hr0 => ?_)
        subst hr0
        refine lv_lmul hx hb dX6_tripletNow_52 ?_
        refine rw_topl (show (vT G z i j : Int64) = (if v = 0 then vT G i j z else if v = 1 then vT G j z i else vT G z i j : Int64) from by first | rw [if_pos h2] | rw [if_neg h2, if_pos h23] | rw [if_neg h2, if_neg h23]) ?_
        exact hj53 ls (lv_sub hl [0, 1, 2, 3, 4, 5] rfl)
      · refine lv_aload_n hx hb dX6_tripletNow_26 rfl (lv_at hl 0 rfl) ?_
        refine lv_iload_n hx hb dX6_tripletNow_27 rfl (lv_at hl 2 rfl) ?_
        refine roVl (As := [.int (nI j)]) (rest := []) (c_X6_a l dC dI cI cJ a bf ln (by omega) G n (by omega) lg lp k (by omega) rd np (by omega) M hG hL hR j (by omega)) ⟨hx, hb, hml, hown, hts⟩ (cwV 1 hts gX6_tripletNow_X6_a rfl rfl rfl (by decide +kernel) ⟨Nat.le_of_ble_eq_true rfl, Nat.le_of_ble_eq_true rfl⟩) (hP.sub [0, 1, 2, 3, 4, 5, 6, 7, 8] rfl) hK hN (ci := 6) rfl rfl rfl hl.1 rfl (Nat.le_of_ble_eq_true rfl) dX6_tripletNow_28 ⟨Nat.zero_le _, Nat.zero_le _⟩ (fun r hr0 => ?_)
        subst hr0
        refine lv_aload_n hx hb dX6_tripletNow_31 rfl (lv_at hl 0 rfl) ?_
        refine lv_iload_n hx hb dX6_tripletNow_32 rfl (lv_at hl 3 rfl) ?_
        refine lv_iload_n hx hb dX6_tripletNow_33 rfl (lv_at hl 1 rfl) ?_
        refine roVl (As := [.int (nI z), .int (nI i)]) (rest := [.long (vA G j)]) (c_X6_x l dC dI cI cJ a bf ln (by omega) G n (by omega) lg lp k (by omega) rd np (by omega) M hG hL hR z i (by omega) (by omega)) ⟨hx, hb, hml, hown, hts⟩ (cwV 2 hts gX6_tripletNow_X6_x rfl rfl rfl (by decide +kernel) ⟨Nat.le_of_ble_eq_true rfl, Nat.le_of_ble_eq_true rfl⟩) (hP.sub [0, 1, 2, 3, 4, 5, 6, 7, 8] rfl) hK hN (ci := 6) rfl rfl rfl hl.1 rfl (Nat.le_of_ble_eq_true rfl) dX6_tripletNow_34 ⟨Nat.zero_le _, Nat.zero_le _⟩ (fun r hr0 => ?_)
        subst hr0
        refine lv_lmul hx hb dX6_tripletNow_37 ?_
        refine lv_goto (tgt := 53) hx hb dX6_tripletNow_38 (by decide) ?_
        refine rw_topl (show (vT G j z i : Int64) = (if v = 0 then vT G i j z else if v = 1 then vT G j z i else vT G z i j : Int64) from by first | rw [if_pos h2] | rw [if_neg h2, if_pos h23] | rw [if_neg h2, if_neg h23]) ?_
        exact hj53 ls (lv_sub hl [0, 1, 2, 3, 4, 5] rfl)
    · refine lv_aload_n hx hb dX6_tripletNow_5 rfl (lv_at hl 0 rfl) ?_
      refine lv_iload_n hx hb dX6_tripletNow_6 rfl (lv_at hl 1 rfl) ?_
      refine roVl (As := [.int (nI i)]) (rest := []) (c_X6_a l dC dI cI cJ a bf ln (by omega) G n (by omega) lg lp k (by omega) rd np (by omega) M hG hL hR i (by omega)) ⟨hx, hb, hml, hown, hts⟩ (cwV 1 hts gX6_tripletNow_X6_a rfl rfl rfl (by decide +kernel) ⟨Nat.le_of_ble_eq_true rfl, Nat.le_of_ble_eq_true rfl⟩) (hP.sub [0, 1, 2, 3, 4, 5, 6, 7, 8] rfl) hK hN (ci := 6) rfl rfl rfl hl.1 rfl (Nat.le_of_ble_eq_true rfl) dX6_tripletNow_7 ⟨Nat.zero_le _, Nat.zero_le _⟩ (fun r hr0 => ?_)
      subst hr0
      refine lv_aload_n hx hb dX6_tripletNow_10 rfl (lv_at hl 0 rfl) ?_
      refine lv_iload_n hx hb dX6_tripletNow_11 rfl (lv_at hl 2 rfl) ?_
      refine lv_iload_n hx hb dX6_tripletNow_12 rfl (lv_at hl 3 rfl) ?_
      refine roVl (As := [.int (nI j), .int (nI z)]) (rest := [.long (vA G i)]) (c_X6_x l dC dI cI cJ a bf ln (by omega) G n (by omega) lg lp k (by omega) rd np (by omega) M hG hL hR j z (by omega) (by omega)) ⟨hx, hb, hml, hown, hts⟩ (cwV 2 hts gX6_tripletNow_X6_x rfl rfl rfl (by decide +kernel) ⟨Nat.le_of_ble_eq_true rfl, Nat.le_of_ble_eq_true rfl⟩) (hP.sub [0, 1, 2, 3, 4, 5, 6, 7, 8] rfl) hK hN (ci := 6) rfl rfl rfl hl.1 rfl (Nat.le_of_ble_eq_true rfl) dX6_tripletNow_13 ⟨Nat.zero_le _, Nat.zero_le _⟩ (fun r hr0 => ?_)
      subst hr0
      refine lv_lmul hx hb dX6_tripletNow_16 ?_
      refine lv_goto (tgt := 53) hx hb dX6_tripletNow_17 (by decide) ?_
      refine rw_topl (show (vT G i j z : Int64) = (if v = 0 then vT G i j z else if v = 1 then vT G j z i else vT G z i j : Int64) from by first | rw [if_pos h2] | rw [if_neg h2, if_pos h23] | rw [if_neg h2, if_neg h23]) ?_
      exact hj53 ls (lv_sub hl [0, 1, 2, 3, 4, 5] rfl)

set_option maxHeartbeats 4000000 in
set_option maxRecDepth 100000 in
theorem c_X6_tripletPower (l : Launch) (dC : Nat → ClassId) (dI : Nat → Nat → Nat) (cI cJ : ClassId) (a : Nat → Nat) (bf : Nat → Int32) (ln : Nat) (hln : ln ≤ 28) (G : GL) (n : Nat) (hn : n ≤ 20) (lg lp : Nat → Int32) (k : Nat) (hk : k ≤ 8) (rd : Nat → Int32) (np : Nat) (hp : np ≤ 16) (M : MS) (hG : gOK G n) (hL : lOK lg k n) (hR : rOK rd np) (i j z w v : Int32) : Met l yX6_tripletPower wsX6_tripletPower ({ frames := 4, cells := 0, slots := 0, locals := 93 }) (va_Pc [.ref (a 0), .int i, .int j, .int z, .int w, .int v] (RO (dC, dI) (tyK cI cJ) ([(a 0, .inr (6, [.int (nI ln), .ref (a 1), .int (nI n), .ref (a 2), .ref (a 3), .int (nI k), .ref (a 4), .ref (a 5), .int (nI np), .ref (a 6), .long M.1, .ref (a 7), .int M.2.1, .int M.2.2.1, .int M.2.2.2.1, .int M.2.2.2.2.1, .ref (a 8), .long M.2.2.2.2.2.1])), (a 1, .inl (cI, 28, .inl bf)), (a 2, .inl (cJ, 20, .inr (.inl (gK G)))), (a 3, .inl (cI, 60, .inl (ilv G))), (a 4, .inl (cI, 8, .inl lg)), (a 5, .inl (cI, 8, .inl lp)), (a 6, .inl (cI, 16, .inl rd)), (a 7, .inl (cI, 3, .inl M.2.2.2.2.2.2.1)), (a 8, .inl (cJ, 3, .inr (.inl M.2.2.2.2.2.2.2)))]))) (vp_Sl (fun r => r = sTri G n i j z w v)) 0 0 (fun _ => False) := by
  refine Met.ofW (cc := cX6_tripletPower) (maxL := 6) (ret := (some .long)) (by decide) rfl ?_
  intro p e s m args below meth c s₁ B hml hv
  obtain ⟨rfl, hP, hK, hN⟩ := hv
  have hx := B.exec
  have hb := B.bytes
  have hr := B.returns
  have hts := atoms_spec (ws := wsX6_tripletPower) B.pre
  have hown : s.vm.findClass RX6 = some m.cls := findClass_of_methodNamed B.named
  have hlocks := B.notSynchronized
  have hP : va_P (dC, dI) vwCl [(a 0, .inr (6, [.int (nI ln), .ref (a 1), .int (nI n), .ref (a 2), .ref (a 3), .int (nI k), .ref (a 4), .ref (a 5), .int (nI np), .ref (a 6), .long M.1, .ref (a 7), .int M.2.1, .int M.2.2.1, .int M.2.2.2.1, .int M.2.2.2.2.1, .ref (a 8), .long M.2.2.2.2.2.1])), (a 1, .inl (cI, 28, .inl bf)), (a 2, .inl (cJ, 20, .inr (.inl (gK G)))), (a 3, .inl (cI, 60, .inl (ilv G))), (a 4, .inl (cI, 8, .inl lg)), (a 5, .inl (cI, 8, .inl lp)), (a 6, .inl (cI, 16, .inl rd)), (a 7, .inl (cI, 3, .inl M.2.2.2.2.2.2.1)), (a 8, .inl (cJ, 3, .inr (.inl M.2.2.2.2.2.2.2)))] s.heap := hP
  have hl := lv_entry ([.ref (a 0), .int i, .int j, .int z, .int w, .int v]) (n := 6) (Nat.le_of_ble_eq_true rfl)
  rw [lg_entry_eq]
  generalize (lg_sl ([.ref (a 0), .int i, .int j, .int z, .int w, .int v]) ++ List.replicate (6 - (lg_sl ([.ref (a 0), .int i, .int j, .int z, .int w, .int v])).length) Slot.unset).toArray = ls at hl ⊢
  have hl : lv_has ls 6 [(0, .ref (a 0)), (1, .int i), (2, .int j), (3, .int z), (4, .int w), (5, .int v)] := hl
  refine lv_aload_n hx hb dX6_tripletPower_0 rfl (lv_at hl 0 rfl) ?_
  refine lv_iload_n hx hb dX6_tripletPower_1 rfl (lv_at hl 1 rfl) ?_
  refine roVi (As := [.int i]) (rest := []) (c_X6_isGlass l dC dI cI cJ a bf ln (by omega) G n (by omega) lg lp k (by omega) rd np (by omega) M hG hL hR i) ⟨hx, hb, hml, hown, hts⟩ (cwV 1 hts gX6_tripletPower_X6_isGlass rfl rfl rfl (by decide +kernel) ⟨Nat.le_of_ble_eq_true rfl, Nat.le_of_ble_eq_true rfl⟩) (hP.sub [0, 1, 2, 3, 4, 5, 6, 7, 8] rfl) hK hN (ci := 6) rfl rfl rfl hl.1 rfl (Nat.le_of_ble_eq_true rfl) dX6_tripletPower_2 ⟨Nat.zero_le _, Nat.zero_le _⟩ (fun r hr0 => ?_)
  subst hr0
  refine rb_eq (tgt := 24) hx hb dX6_tripletPower_5 (by decide) (fun h5 => ?_) (fun h5 => ?_)
  · refine lv_ldc2 (v := (-9000000000000000002)) hx hb hown (hts (.constantLong RX6 104 (-9000000000000000002)) (by decide +kernel)) dX6_tripletPower_24 ?_
    exact W.lret hx hb hr (fun t ht hW => ⟨_, rfl, by rw [sTri, if_neg (fun w => h5 w.1)], ht⟩) (fun _ h => absurd h List.not_mem_nil) dX6_tripletPower_27
  · obtain ⟨g, hg, eg⟩ := hasP_ex (by omega) h5
    subst eg
    refine lv_aload_n hx hb dX6_tripletPower_8 rfl (lv_at hl 0 rfl) ?_
    refine lv_iload_n hx hb dX6_tripletPower_9 rfl (lv_at hl 2 rfl) ?_
    refine roVi (As := [.int j]) (rest := []) (c_X6_isGlass l dC dI cI cJ a bf ln (by omega) G n (by omega) lg lp k (by omega) rd np (by omega) M hG hL hR j) ⟨hx, hb, hml, hown, hts⟩ (cwV 1 hts gX6_tripletPower_X6_isGlass rfl rfl rfl (by decide +kernel) ⟨Nat.le_of_ble_eq_true rfl, Nat.le_of_ble_eq_true rfl⟩) (hP.sub [0, 1, 2, 3, 4, 5, 6, 7, 8] rfl) hK hN (ci := 6) rfl rfl rfl hl.1 rfl (Nat.le_of_ble_eq_true rfl) dX6_tripletPower_10 ⟨Nat.zero_le _, Nat.zero_le _⟩ (fun r hr0 => ?_)
    subst hr0
    refine rb_eq (tgt := 24) hx hb dX6_tripletPower_13 (by decide) (fun h13 => ?_) (fun h13 => ?_)
    · refine lv_ldc2 (v := (-9000000000000000002)) hx hb hown (hts (.constantLong RX6 104 (-9000000000000000002)) (by decide +kernel)) dX6_tripletPower_24 ?_
      exact W.lret hx hb hr (fun t ht hW => ⟨_, rfl, by rw [sTri, if_neg (fun w => h13 w.2.1)], ht⟩) (fun _ h => absurd h List.not_mem_nil) dX6_tripletPower_27
    · obtain ⟨g2, hg2, eg2⟩ := hasP_ex (by omega) h13
      subst eg2
      refine lv_aload_n hx hb dX6_tripletPower_16 rfl (lv_at hl 0 rfl) ?_
      refine lv_iload_n hx hb dX6_tripletPower_17 rfl (lv_at hl 3 rfl) ?_
      refine roVi (As := [.int z]) (rest := []) (c_X6_isGlass l dC dI cI cJ a bf ln (by omega) G n (by omega) lg lp k (by omega) rd np (by omega) M hG hL hR z) ⟨hx, hb, hml, hown, hts⟩ (cwV 1 hts gX6_tripletPower_X6_isGlass rfl rfl rfl (by decide +kernel) ⟨Nat.le_of_ble_eq_true rfl, Nat.le_of_ble_eq_true rfl⟩) (hP.sub [0, 1, 2, 3, 4, 5, 6, 7, 8] rfl) hK hN (ci := 6) rfl rfl rfl hl.1 rfl (Nat.le_of_ble_eq_true rfl) dX6_tripletPower_18 ⟨Nat.zero_le _, Nat.zero_le _⟩ (fun r hr0 => ?_)
      subst hr0
      refine rb_ne (tgt := 28) hx hb dX6_tripletPower_21 (by decide) (fun h21 => ?_) (fun h21 => ?_)
      · obtain ⟨g3, hg3, eg3⟩ := hasP_ex (by omega) h21
        subst eg3
        refine lv_iload_n hx hb dX6_tripletPower_28 rfl (lv_at hl 1 rfl) ?_
        refine lv_iload_n hx hb dX6_tripletPower_29 rfl (lv_at hl 2 rfl) ?_
        refine lv_icmp_eq (tgt := 43) hx hb dX6_tripletPower_30 (by decide) (fun h30 => ?_) (fun h30 => ?_)
        · refine lv_ldc2 (v := (-9000000000000000006)) hx hb hown (hts (.constantLong RX6 98 (-9000000000000000006)) (by decide +kernel)) dX6_tripletPower_43 ?_
          exact W.lret hx hb hr (fun t ht hW => ⟨_, rfl, by rw [sTri, if_pos ⟨h5, h13, h21⟩, if_pos (Or.inl h30)], ht⟩) (fun _ h => absurd h List.not_mem_nil) dX6_tripletPower_46
        · refine lv_iload_n hx hb dX6_tripletPower_33 rfl (lv_at hl 1 rfl) ?_
          refine lv_iload_n hx hb dX6_tripletPower_34 rfl (lv_at hl 3 rfl) ?_
          refine lv_icmp_eq (tgt := 43) hx hb dX6_tripletPower_35 (by decide) (fun h35 => ?_) (fun h35 => ?_)
          · refine lv_ldc2 (v := (-9000000000000000006)) hx hb hown (hts (.constantLong RX6 98 (-9000000000000000006)) (by decide +kernel)) dX6_tripletPower_43 ?_
            exact W.lret hx hb hr (fun t ht hW => ⟨_, rfl, by rw [sTri, if_pos ⟨h5, h13, h21⟩, if_pos (Or.inr (Or.inr h35.symm))], ht⟩) (fun _ h => absurd h List.not_mem_nil) dX6_tripletPower_46
          · refine lv_iload_n hx hb dX6_tripletPower_38 rfl (lv_at hl 2 rfl) ?_
            refine lv_iload_n hx hb dX6_tripletPower_39 rfl (lv_at hl 3 rfl) ?_
            refine lv_icmp_ne (tgt := 47) hx hb dX6_tripletPower_40 (by decide) (fun h40 => ?_) (fun h40 => ?_)
            · refine lv_iload hx hb dX6_tripletPower_47 (lv_at hl 4 rfl) ?_
              refine lv_i2l (v := w.toInt64) hx hb dX6_tripletPower_49 rfl ?_
              refine lv_ldc2 (v := (-10000)) hx hb hown (hts (.constantLong RX6 136 (-10000)) (by decide +kernel)) dX6_tripletPower_50 ?_
              refine lv_ldc2 (v := 10000) hx hb hown (hts (.constantLong RX6 138 (10000)) (by decide +kernel)) dX6_tripletPower_53 ?_
              refine stSi (As := [.long w.toInt64, .long (-10000), .long 10000]) (rest := []) (c_X6_within l w.toInt64 (-10000) 10000) ⟨hx, hb, hml, hown, hts⟩ (va_cwS 3 hts gX6_tripletPower_X6_within rfl rfl rfl (by decide +kernel) ⟨Nat.le_of_ble_eq_true rfl, Nat.le_of_ble_eq_true rfl⟩) rfl hl.1 rfl (Nat.le_of_ble_eq_true rfl) dX6_tripletPower_56 ⟨Nat.zero_le _, Nat.zero_le _⟩ (fun r hr0 => ?_)
              subst hr0
              refine rb_eq (tgt := 75) hx hb dX6_tripletPower_59 (by decide) (fun h59 => ?_) (fun h59 => ?_)
              · have h59 := fun qq => h59 (Iff.mpr (w_iff w (-10000) 10000 (by decide) (by decide)) qq)
                refine lv_ldc2 (v := (-9000000000000000001)) hx hb hown (hts (.constantLong RX6 53 (-9000000000000000001)) (by decide +kernel)) dX6_tripletPower_75 ?_
                exact W.lret hx hb hr (fun t ht hW => ⟨_, rfl, by rw [sTri, if_pos ⟨h5, h13, h21⟩, if_neg (fun w => w.elim h30 (fun w => w.elim h40 (fun w => h35 w.symm))), if_neg (fun w => h59 w.1)], ht⟩) (fun _ h => absurd h List.not_mem_nil) dX6_tripletPower_78
              · have h59 := (w_iff w (-10000) 10000 (by decide) (by decide)).mp h59
                refine lv_iload hx hb dX6_tripletPower_62 (lv_at hl 5 rfl) ?_
                refine lv_i2l (v := v.toInt64) hx hb dX6_tripletPower_64 rfl ?_
                refine lv_lconst (v := 0) hx hb dX6_tripletPower_65 (by decide) ?_
                refine lv_ldc2 (v := 2) hx hb hown (hts (.constantLong RX6 46 (2)) (by decide +kernel)) dX6_tripletPower_66 ?_
                refine stSi (As := [.long v.toInt64, .long 0, .long 2]) (rest := []) (c_X6_within l v.toInt64 0 2) ⟨hx, hb, hml, hown, hts⟩ (va_cwS 3 hts gX6_tripletPower_X6_within rfl rfl rfl (by decide +kernel) ⟨Nat.le_of_ble_eq_true rfl, Nat.le_of_ble_eq_true rfl⟩) rfl hl.1 rfl (Nat.le_of_ble_eq_true rfl) dX6_tripletPower_69 ⟨Nat.zero_le _, Nat.zero_le _⟩ (fun r hr0 => ?_)
                subst hr0
                refine rb_ne (tgt := 79) hx hb dX6_tripletPower_72 (by decide) (fun h72 => ?_) (fun h72 => ?_)
                · have h72 := (w_iff v 0 2 (by decide) (by decide)).mp h72
                  refine lv_aload_n hx hb dX6_tripletPower_79 rfl (lv_at hl 0 rfl) ?_
                  refine lv_iload_n hx hb dX6_tripletPower_80 rfl (lv_at hl 1 rfl) ?_
                  refine lv_iload_n hx hb dX6_tripletPower_81 rfl (lv_at hl 2 rfl) ?_
                  refine lv_iload_n hx hb dX6_tripletPower_82 rfl (lv_at hl 3 rfl) ?_
                  refine roVl (As := [.int (nI g), .int (nI g2), .int (nI g3)]) (rest := []) (c_X6_t l dC dI cI cJ a bf ln (by omega) G n (by omega) lg lp k (by omega) rd np (by omega) M hG hL hR g g2 g3 (by omega) (by omega) (by omega)) ⟨hx, hb, hml, hown, hts⟩ (cwV 3 hts gX6_tripletPower_X6_t rfl rfl rfl (by decide +kernel) ⟨Nat.le_of_ble_eq_true rfl, Nat.le_of_ble_eq_true rfl⟩) (hP.sub [0, 1, 2, 3, 4, 5, 6, 7, 8] rfl) hK hN (ci := 6) rfl rfl rfl hl.1 rfl (Nat.le_of_ble_eq_true rfl) dX6_tripletPower_83 ⟨Nat.zero_le _, Nat.zero_le _⟩ (fun r hr0 => ?_)
                  subst hr0
                  refine lv_lconst (v := 0) hx hb dX6_tripletPower_86 (by decide) ?_
                  refine rl_ifne (tgt := 97) hx hb dX6_tripletPower_87 dX6_tripletPower_88 (by decide) (fun h87 => ?_) (fun h87 => ?_)
                  · refine lv_aload_n hx hb dX6_tripletPower_97 rfl (lv_at hl 0 rfl) ?_
                    refine lv_iload_n hx hb dX6_tripletPower_98 rfl (lv_at hl 1 rfl) ?_
                    refine lv_iload_n hx hb dX6_tripletPower_99 rfl (lv_at hl 2 rfl) ?_
                    refine lv_iload_n hx hb dX6_tripletPower_100 rfl (lv_at hl 3 rfl) ?_
                    refine lv_iload hx hb dX6_tripletPower_101 (lv_at hl 4 rfl) ?_
                    refine lv_iload hx hb dX6_tripletPower_103 (lv_at hl 5 rfl) ?_
                    refine roVl (As := [.int (nI g), .int (nI g2), .int (nI g3), .int w, .int v]) (rest := []) (c_X6_tripletNow l dC dI cI cJ a bf ln (by omega) G n (by omega) lg lp k (by omega) rd np (by omega) M hG hL hR g g2 g3 (by omega) (by omega) (by omega) w v (by assumption)) ⟨hx, hb, hml, hown, hts⟩ (cwV 5 hts gX6_tripletPower_X6_tripletNow rfl rfl rfl (by decide +kernel) ⟨Nat.le_of_ble_eq_true rfl, Nat.le_of_ble_eq_true rfl⟩) (hP.sub [0, 1, 2, 3, 4, 5, 6, 7, 8] rfl) hK hN (ci := 6) rfl rfl rfl hl.1 rfl (Nat.le_of_ble_eq_true rfl) dX6_tripletPower_105 ⟨Nat.zero_le _, Nat.zero_le _⟩ (fun r hr0 => ?_)
                    subst hr0
                    exact W.lret hx hb hr (fun t ht hW => ⟨_, rfl, by rw [sTri, if_pos ⟨h5, h13, h21⟩, if_neg (fun w => w.elim h30 (fun w => w.elim h40 (fun w => h35 w.symm))), if_pos ⟨h59, h72⟩, ix_nI (by omega), ix_nI (by omega), ix_nI (by omega), if_neg h87], ht⟩) (fun _ h => absurd h List.not_mem_nil) dX6_tripletPower_108
                  · refine lv_ldc2 (v := (-9000000000000000008)) hx hb hown (hts (.constantLong RX6 134 (-9000000000000000008)) (by decide +kernel)) dX6_tripletPower_91 ?_
                    refine lv_goto (tgt := 108) hx hb dX6_tripletPower_94 (by decide) ?_
                    exact W.lret hx hb hr (fun t ht hW => ⟨_, rfl, by rw [sTri, if_pos ⟨h5, h13, h21⟩, if_neg (fun w => w.elim h30 (fun w => w.elim h40 (fun w => h35 w.symm))), if_pos ⟨h59, h72⟩, ix_nI (by omega), ix_nI (by omega), ix_nI (by omega), if_pos h87], ht⟩) (fun _ h => absurd h List.not_mem_nil) dX6_tripletPower_108
                · have h72 := fun qq => h72 (Iff.mpr (w_iff v 0 2 (by decide) (by decide)) qq)
                  refine lv_ldc2 (v := (-9000000000000000001)) hx hb hown (hts (.constantLong RX6 53 (-9000000000000000001)) (by decide +kernel)) dX6_tripletPower_75 ?_
                  exact W.lret hx hb hr (fun t ht hW => ⟨_, rfl, by rw [sTri, if_pos ⟨h5, h13, h21⟩, if_neg (fun w => w.elim h30 (fun w => w.elim h40 (fun w => h35 w.symm))), if_neg (fun w => h72 w.2)], ht⟩) (fun _ h => absurd h List.not_mem_nil) dX6_tripletPower_78
            · refine lv_ldc2 (v := (-9000000000000000006)) hx hb hown (hts (.constantLong RX6 98 (-9000000000000000006)) (by decide +kernel)) dX6_tripletPower_43 ?_
              exact W.lret hx hb hr (fun t ht hW => ⟨_, rfl, by rw [sTri, if_pos ⟨h5, h13, h21⟩, if_pos (Or.inr (Or.inl h40))], ht⟩) (fun _ h => absurd h List.not_mem_nil) dX6_tripletPower_46
      · refine lv_ldc2 (v := (-9000000000000000002)) hx hb hown (hts (.constantLong RX6 104 (-9000000000000000002)) (by decide +kernel)) dX6_tripletPower_24 ?_
        exact W.lret hx hb hr (fun t ht hW => ⟨_, rfl, by rw [sTri, if_neg (fun w => h21 w.2.2)], ht⟩) (fun _ h => absurd h List.not_mem_nil) dX6_tripletPower_27

set_option maxHeartbeats 4000000 in
set_option maxRecDepth 100000 in
theorem c_X6_strongest (l : Launch) (dC : Nat → ClassId) (dI : Nat → Nat → Nat) (cI cJ : ClassId) (a : Nat → Nat) (bf : Nat → Int32) (ln : Nat) (hln : ln ≤ 28) (G : GL) (n : Nat) (hn : n ≤ 20) (lg lp : Nat → Int32) (k : Nat) (hk : k ≤ 8) (rd : Nat → Int32) (np : Nat) (hp : np ≤ 16) (M : MS) (hG : gOK G n) (hL : lOK lg k n) (hR : rOK rd np) (i j z : Nat) (hi : i < n) (hj : j < n) (hz : z < n) (hT : ¬ vTT G i j z = 0) : Met l yX6_strongest wsX6_strongest ({ frames := 4, cells := 0, slots := 0, locals := 93 }) (va_Pc [.ref (a 0), .int (nI i), .int (nI j), .int (nI z)] (RO (dC, dI) (tyK cI cJ) ([(a 0, .inr (6, [.int (nI ln), .ref (a 1), .int (nI n), .ref (a 2), .ref (a 3), .int (nI k), .ref (a 4), .ref (a 5), .int (nI np), .ref (a 6), .long M.1, .ref (a 7), .int M.2.1, .int M.2.2.1, .int M.2.2.2.1, .int M.2.2.2.2.1, .ref (a 8), .long M.2.2.2.2.2.1])), (a 1, .inl (cI, 28, .inl bf)), (a 2, .inl (cJ, 20, .inr (.inl (gK G)))), (a 3, .inl (cI, 60, .inl (ilv G))), (a 4, .inl (cI, 8, .inl lg)), (a 5, .inl (cI, 8, .inl lp)), (a 6, .inl (cI, 16, .inl rd)), (a 7, .inl (cI, 3, .inl M.2.2.2.2.2.2.1)), (a 8, .inl (cJ, 3, .inr (.inl M.2.2.2.2.2.2.2)))]))) (vp_Sl (fun r => r = gTri G i j z)) 0 0 (fun _ => False) := by
  refine Met.ofW (cc := cX6_strongest) (maxL := 9) (ret := (some .long)) (by decide) rfl ?_
  intro p e s m args below meth c s₁ B hml hv
  obtain ⟨rfl, hP, hK, hN⟩ := hv
  have hx := B.exec
  have hb := B.bytes
  have hr := B.returns
  have hts := atoms_spec (ws := wsX6_strongest) B.pre
  have hown : s.vm.findClass RX6 = some m.cls := findClass_of_methodNamed B.named
  have hlocks := B.notSynchronized
  have hP : va_P (dC, dI) vwCl [(a 0, .inr (6, [.int (nI ln), .ref (a 1), .int (nI n), .ref (a 2), .ref (a 3), .int (nI k), .ref (a 4), .ref (a 5), .int (nI np), .ref (a 6), .long M.1, .ref (a 7), .int M.2.1, .int M.2.2.1, .int M.2.2.2.1, .int M.2.2.2.2.1, .ref (a 8), .long M.2.2.2.2.2.1])), (a 1, .inl (cI, 28, .inl bf)), (a 2, .inl (cJ, 20, .inr (.inl (gK G)))), (a 3, .inl (cI, 60, .inl (ilv G))), (a 4, .inl (cI, 8, .inl lg)), (a 5, .inl (cI, 8, .inl lp)), (a 6, .inl (cI, 16, .inl rd)), (a 7, .inl (cI, 3, .inl M.2.2.2.2.2.2.1)), (a 8, .inl (cJ, 3, .inr (.inl M.2.2.2.2.2.2.2)))] s.heap := hP
  have hl := lv_entry ([.ref (a 0), .int (nI i), .int (nI j), .int (nI z)]) (n := 9) (Nat.le_of_ble_eq_true rfl)
  rw [lg_entry_eq]
  generalize (lg_sl ([.ref (a 0), .int (nI i), .int (nI j), .int (nI z)]) ++ List.replicate (9 - (lg_sl ([.ref (a 0), .int (nI i), .int (nI j), .int (nI z)])).length) Slot.unset).toArray = ls at hl ⊢
  have hl : lv_has ls 9 [(0, .ref (a 0)), (1, .int (nI i)), (2, .int (nI j)), (3, .int (nI z))] := hl
  refine lv_lconst (v := 0) hx hb dX6_strongest_0 (by decide) ?_
  refine lv_lstore (lv' := [(4, .long 0), (0, .ref (a 0)), (1, .int (nI i)), (2, .int (nI j)), (3, .int (nI z))]) hx hb dX6_strongest_1 hl (by decide) rfl (fun ls hl => ?_)
  refine lv_iconst (v := 0) hx hb dX6_strongest_3 (by decide) ?_
  refine lv_istore (lv' := [(6, .int 0), (4, .long 0), (0, .ref (a 0)), (1, .int (nI i)), (2, .int (nI j)), (3, .int (nI z))]) hx hb dX6_strongest_4 hl (by decide) rfl (fun ls hl => ?_)
  refine rloopZ (nL := 9) 0 3 (fun l m => if m < t3 G i j z l then t3 G i j z l else m) 0 (fun k6 z6 => [(6, .int (nI k6)), (4, .long z6), (0, .ref (a 0)), (1, .int (nI i)), (2, .int (nI j)), (3, .int (nI z))]) (fun _ _ => True) (by omega) (trivial) (lv_sub hl [0, 1, 2, 3, 4, 5] rfl) (fun k6 z6 hlo6 hk6 hz6 hI6 ls hl ih6 => ?_) (fun z6 hz6 hI6 ls hl => ?_)
  · refine lv_iload hx hb dX6_strongest_6 (lv_at hl 0 rfl) ?_
    refine lv_iconst (v := 3) hx hb dX6_strongest_8 (by decide) ?_
    refine rn_ge (tgt := 52) hx hb k6 3 rfl rfl (by omega) (by omega) dX6_strongest_9 (by decide) (fun h9 => ?_) (fun h9 => ?_)
    · exfalso; omega
    · refine lv_aload_n hx hb dX6_strongest_12 rfl (lv_at hl 2 rfl) ?_
      refine lv_iload_n hx hb dX6_strongest_13 rfl (lv_at hl 3 rfl) ?_
      refine lv_iload_n hx hb dX6_strongest_14 rfl (lv_at hl 4 rfl) ?_
      refine lv_iload_n hx hb dX6_strongest_15 rfl (lv_at hl 5 rfl) ?_
      refine lv_sipush (v := 10000) hx hb dX6_strongest_16 (by decide) ?_
      refine lv_iload hx hb dX6_strongest_19 (lv_at hl 0 rfl) ?_
      refine roVl (As := [.int (nI i), .int (nI j), .int (nI z), .int 10000, .int (nI k6)]) (rest := []) (c_X6_tripletNow l dC dI cI cJ a bf ln (by omega) G n (by omega) lg lp k (by omega) rd np (by omega) M hG hL hR i j z (by omega) (by omega) (by omega) 10000 (nI k6) (by assumption)) ⟨hx, hb, hml, hown, hts⟩ (cwV 5 hts gX6_strongest_X6_tripletNow rfl rfl rfl (by decide +kernel) ⟨Nat.le_of_ble_eq_true rfl, Nat.le_of_ble_eq_true rfl⟩) (hP.sub [0, 1, 2, 3, 4, 5, 6, 7, 8] rfl) hK hN (ci := 6) rfl rfl rfl hl.1 rfl (Nat.le_of_ble_eq_true rfl) dX6_strongest_21 ⟨Nat.zero_le _, Nat.zero_le _⟩ (fun r hr0 => ?_)
      subst hr0
      refine stSl (As := [.long (fq ((10000 : Int32).toInt64 * (if (nI k6) = 0 then vT G i j z else if (nI k6) = 1 then vT G j z i else vT G z i j)) (vTT G i j z))]) (rest := []) (c_X6_size l (fq ((10000 : Int32).toInt64 * (if (nI k6) = 0 then vT G i j z else if (nI k6) = 1 then vT G j z i else vT G z i j)) (vTT G i j z))) ⟨hx, hb, hml, hown, hts⟩ (va_cwS 1 hts gX6_strongest_X6_size rfl rfl rfl (by decide +kernel) ⟨Nat.le_of_ble_eq_true rfl, Nat.le_of_ble_eq_true rfl⟩) rfl hl.1 rfl (Nat.le_of_ble_eq_true rfl) dX6_strongest_24 ⟨Nat.zero_le _, Nat.zero_le _⟩ (fun r hr0 => ?_)
      subst hr0
      refine rw_topl (show (labs (fq ((10000 : Int32).toInt64 * (if (nI k6) = 0 then vT G i j z else if (nI k6) = 1 then vT G j z i else vT G z i j)) (vTT G i j z)) : Int64) = (t3 G i j z k6 : Int64) from t3_eq G i j z (by omega)) ?_
      refine lv_lstore (lv' := [(7, .long (t3 G i j z k6)), (6, .int (nI k6)), (4, .long z6), (0, .ref (a 0)), (1, .int (nI i)), (2, .int (nI j)), (3, .int (nI z))]) hx hb dX6_strongest_27 hl (by decide) rfl (fun ls hl => ?_)
      refine lv_lload hx hb dX6_strongest_29 (lv_at hl 0 rfl) ?_
      refine lv_lload hx hb dX6_strongest_31 (lv_at hl 2 rfl) ?_
      refine rl_ifle (tgt := 42) hx hb dX6_strongest_33 dX6_strongest_34 (by decide) (fun h33 => ?_) (fun h33 => ?_)
      · refine lv_lload hx hb dX6_strongest_42 (lv_at hl 2 rfl) ?_
        refine lv_lstore (lv' := [(4, .long z6), (7, .long (t3 G i j z k6)), (6, .int (nI k6)), (0, .ref (a 0)), (1, .int (nI i)), (2, .int (nI j)), (3, .int (nI z))]) hx hb dX6_strongest_44 hl (by decide) rfl (fun ls hl => ?_)
        refine lv_iinc (v := nI (k6 + 1)) (lv' := [(6, .int (nI (k6 + 1))), (4, .long z6), (7, .long (t3 G i j z k6)), (0, .ref (a 0)), (1, .int (nI i)), (2, .int (nI j)), (3, .int (nI z))]) hx hb dX6_strongest_46 hl (k := 2) rfl (by first | rfl | exact nI_add _ _) (by decide) rfl (fun ls hl => ?_)
        refine lv_goto (tgt := 6) hx hb dX6_strongest_49 (by decide) ?_
        exact ih6 z6 ((if_neg h33).symm) (trivial) ls (lv_sub hl [0, 1, 3, 4, 5, 6] rfl)
      · refine lv_lload hx hb dX6_strongest_37 (lv_at hl 0 rfl) ?_
        refine lv_goto (tgt := 44) hx hb dX6_strongest_39 (by decide) ?_
        refine lv_lstore (lv' := [(4, .long (t3 G i j z k6)), (7, .long (t3 G i j z k6)), (6, .int (nI k6)), (0, .ref (a 0)), (1, .int (nI i)), (2, .int (nI j)), (3, .int (nI z))]) hx hb dX6_strongest_44 hl (by decide) rfl (fun ls hl => ?_)
        refine lv_iinc (v := nI (k6 + 1)) (lv' := [(6, .int (nI (k6 + 1))), (4, .long (t3 G i j z k6)), (7, .long (t3 G i j z k6)), (0, .ref (a 0)), (1, .int (nI i)), (2, .int (nI j)), (3, .int (nI z))]) hx hb dX6_strongest_46 hl (k := 2) rfl (by first | rfl | exact nI_add _ _) (by decide) rfl (fun ls hl => ?_)
        refine lv_goto (tgt := 6) hx hb dX6_strongest_49 (by decide) ?_
        exact ih6 (t3 G i j z k6) ((if_pos h33).symm) (trivial) ls (lv_sub hl [0, 1, 3, 4, 5, 6] rfl)
  · refine lv_iload hx hb dX6_strongest_6 (lv_at hl 0 rfl) ?_
    refine lv_iconst (v := 3) hx hb dX6_strongest_8 (by decide) ?_
    refine rn_ge (tgt := 52) hx hb 3 3 rfl rfl (by omega) (by omega) dX6_strongest_9 (by decide) (fun h9 => ?_) (fun h9 => ?_)
    · refine lv_lload hx hb dX6_strongest_52 (lv_at hl 1 rfl) ?_
      exact W.lret hx hb hr (fun t ht hW => ⟨_, rfl, by rw [hz6]; exact str_eq hG hi hj hz hT, ht⟩) (fun _ h => absurd h List.not_mem_nil) dX6_strongest_54
    · exfalso; omega

set_option maxHeartbeats 4000000 in
set_option maxRecDepth 100000 in
theorem c_X6_tripletBest (l : Launch) (dC : Nat → ClassId) (dI : Nat → Nat → Nat) (cI cJ : ClassId) (a : Nat → Nat) (bf : Nat → Int32) (ln : Nat) (hln : ln ≤ 28) (G : GL) (n : Nat) (hn : n ≤ 20) (lg lp : Nat → Int32) (k : Nat) (hk : k ≤ 8) (rd : Nat → Int32) (np : Nat) (hp : np ≤ 16) (M : MS) (hG : gOK G n) (hL : lOK lg k n) (hR : rOK rd np)  : Met l yX6_tripletBest wsX6_tripletBest ({ frames := 5, cells := 0, slots := 0, locals := 121 }) (va_Pc [.ref (a 0)] (RO (dC, dI) (tyK cI cJ) ([(a 0, .inr (6, [.int (nI ln), .ref (a 1), .int (nI n), .ref (a 2), .ref (a 3), .int (nI k), .ref (a 4), .ref (a 5), .int (nI np), .ref (a 6), .long M.1, .ref (a 7), .int M.2.1, .int M.2.2.1, .int M.2.2.2.1, .int M.2.2.2.2.1, .ref (a 8), .long M.2.2.2.2.2.1])), (a 1, .inl (cI, 28, .inl bf)), (a 2, .inl (cJ, 20, .inr (.inl (gK G)))), (a 3, .inl (cI, 60, .inl (ilv G))), (a 4, .inl (cI, 8, .inl lg)), (a 5, .inl (cI, 8, .inl lp)), (a 6, .inl (cI, 16, .inl rd)), (a 7, .inl (cI, 3, .inl M.2.2.2.2.2.2.1)), (a 8, .inl (cJ, 3, .inr (.inl M.2.2.2.2.2.2.2)))]))) (vp_Sl (fun r => r = (bTri G n).1)) 0 0 (fun _ => False) := by
  refine Met.ofW (cc := cX6_tripletBest) (maxL := 11) (ret := (some .long)) (by decide) rfl ?_
  intro p e s m args below meth c s₁ B hml hv
  obtain ⟨rfl, hP, hK, hN⟩ := hv
  have hx := B.exec
  have hb := B.bytes
  have hr := B.returns
  have hts := atoms_spec (ws := wsX6_tripletBest) B.pre
  have hown : s.vm.findClass RX6 = some m.cls := findClass_of_methodNamed B.named
  have hlocks := B.notSynchronized
  have hP : va_P (dC, dI) vwCl [(a 0, .inr (6, [.int (nI ln), .ref (a 1), .int (nI n), .ref (a 2), .ref (a 3), .int (nI k), .ref (a 4), .ref (a 5), .int (nI np), .ref (a 6), .long M.1, .ref (a 7), .int M.2.1, .int M.2.2.1, .int M.2.2.2.1, .int M.2.2.2.2.1, .ref (a 8), .long M.2.2.2.2.2.1])), (a 1, .inl (cI, 28, .inl bf)), (a 2, .inl (cJ, 20, .inr (.inl (gK G)))), (a 3, .inl (cI, 60, .inl (ilv G))), (a 4, .inl (cI, 8, .inl lg)), (a 5, .inl (cI, 8, .inl lp)), (a 6, .inl (cI, 16, .inl rd)), (a 7, .inl (cI, 3, .inl M.2.2.2.2.2.2.1)), (a 8, .inl (cJ, 3, .inr (.inl M.2.2.2.2.2.2.2)))] s.heap := hP
  have hl := lv_entry ([.ref (a 0)]) (n := 11) (Nat.le_of_ble_eq_true rfl)
  rw [lg_entry_eq]
  generalize (lg_sl ([.ref (a 0)]) ++ List.replicate (11 - (lg_sl ([.ref (a 0)])).length) Slot.unset).toArray = ls at hl ⊢
  have hl : lv_has ls 11 [(0, .ref (a 0))] := hl
  refine lv_ldc2 (v := (-9000000000000000008)) hx hb hown (hts (.constantLong RX6 134 (-9000000000000000008)) (by decide +kernel)) dX6_tripletBest_0 ?_
  refine lv_lstore_n (lv' := [(1, .long (-9000000000000000008)), (0, .ref (a 0))]) hx hb dX6_tripletBest_3 rfl hl (by decide) rfl (fun ls hl => ?_)
  refine lv_lconst (v := 0) hx hb dX6_tripletBest_4 (by decide) ?_
  refine lv_lstore_n (lv' := [(3, .long 0), (1, .long (-9000000000000000008)), (0, .ref (a 0))]) hx hb dX6_tripletBest_5 rfl hl (by decide) rfl (fun ls hl => ?_)
  refine lv_iconst (v := 0) hx hb dX6_tripletBest_6 (by decide) ?_
  refine lv_istore (lv' := [(5, .int 0), (3, .long 0), (1, .long (-9000000000000000008)), (0, .ref (a 0))]) hx hb dX6_tripletBest_7 hl (by decide) rfl (fun ls hl => ?_)
  refine rloopZ (nL := 11) 0 n (fun i b => bTri2 G n i b) (cNO, 0) (fun k9 z9 => [(5, .int (nI k9)), (3, .long z9.2), (1, .long z9.1), (0, .ref (a 0))]) (fun _ _ => True) (by omega) (trivial) (lv_sub hl [0, 1, 2, 3] rfl) (fun k9 z9 hlo9 hk9 hz9 hI9 ls hl ih9 => ?_) (fun z9 hz9 hI9 ls hl => ?_)
  · refine lv_iload hx hb dX6_tripletBest_9 (lv_at hl 0 rfl) ?_
    refine lv_aload_n hx hb dX6_tripletBest_11 rfl (lv_at hl 3 rfl) ?_
    refine va_get (D := (dC, dI)) (ci := 6) (v := .int (nI n)) (C := RX6) (T := TX6) (N := 18) hx hb hts (by decide +kernel) hown hK hP 0 rfl rfl 2 (by decide) (hts (.fieldLink RX6 35 "AchromatDeskModel" "glasses" "I") (by decide +kernel)) (fun _ h9 => h9) rfl dX6_tripletBest_12 ?_
    refine rn_ge (tgt := 169) hx hb k9 n rfl rfl (by omega) (by omega) dX6_tripletBest_15 (by decide) (fun h15 => ?_) (fun h15 => ?_)
    · exfalso; omega
    · refine lv_iload hx hb dX6_tripletBest_18 (lv_at hl 0 rfl) ?_
      refine lv_iconst (v := 1) hx hb dX6_tripletBest_20 (by decide) ?_
      refine lv_iadd hx hb dX6_tripletBest_21 ?_
      refine rw_topi (nI_add k9 1) ?_
      refine lv_istore (lv' := [(6, .int (nI (k9 + 1))), (5, .int (nI k9)), (3, .long z9.2), (1, .long z9.1), (0, .ref (a 0))]) hx hb dX6_tripletBest_22 hl (by decide) rfl (fun ls hl => ?_)
      refine rloopZ (nL := 11) (k9 + 1) n (fun j b => bTri3 G n k9 j b) z9 (fun k24 z24 => [(6, .int (nI k24)), (5, .int (nI k9)), (3, .long z24.2), (1, .long z24.1), (0, .ref (a 0))]) (fun _ _ => True) (by omega) (trivial) (lv_sub hl [0, 1, 2, 3, 4] rfl) (fun k24 z24 hlo24 hk24 hz24 hI24 ls hl ih24 => ?_) (fun z24 hz24 hI24 ls hl => ?_)
      · refine lv_iload hx hb dX6_tripletBest_24 (lv_at hl 0 rfl) ?_
        refine lv_aload_n hx hb dX6_tripletBest_26 rfl (lv_at hl 4 rfl) ?_
        refine va_get (D := (dC, dI)) (ci := 6) (v := .int (nI n)) (C := RX6) (T := TX6) (N := 18) hx hb hts (by decide +kernel) hown hK hP 0 rfl rfl 2 (by decide) (hts (.fieldLink RX6 35 "AchromatDeskModel" "glasses" "I") (by decide +kernel)) (fun _ h9 => h9) rfl dX6_tripletBest_27 ?_
        refine rn_ge (tgt := 163) hx hb k24 n rfl rfl (by omega) (by omega) dX6_tripletBest_30 (by decide) (fun h30 => ?_) (fun h30 => ?_)
        · exfalso; omega
        · refine lv_iload hx hb dX6_tripletBest_33 (lv_at hl 0 rfl) ?_
          refine lv_iconst (v := 1) hx hb dX6_tripletBest_35 (by decide) ?_
          refine lv_iadd hx hb dX6_tripletBest_36 ?_
          refine rw_topi (nI_add k24 1) ?_
          refine lv_istore (lv' := [(7, .int (nI (k24 + 1))), (6, .int (nI k24)), (5, .int (nI k9)), (3, .long z24.2), (1, .long z24.1), (0, .ref (a 0))]) hx hb dX6_tripletBest_37 hl (by decide) rfl (fun ls hl => ?_)
          refine rloopZ (nL := 11) (k24 + 1) n (fun k b => pick b (lN (10000 * k9 + 100 * k24 + k)) (gTri G k9 k24 k)) z24 (fun k39 z39 => [(7, .int (nI k39)), (6, .int (nI k24)), (5, .int (nI k9)), (3, .long z39.2), (1, .long z39.1), (0, .ref (a 0))]) (fun _ _ => True) (by omega) (trivial) (lv_sub hl [0, 1, 2, 3, 4, 5] rfl) (fun k39 z39 hlo39 hk39 hz39 hI39 ls hl ih39 => ?_) (fun z39 hz39 hI39 ls hl => ?_)
          · refine lv_iload hx hb dX6_tripletBest_39 (lv_at hl 0 rfl) ?_
            refine lv_aload_n hx hb dX6_tripletBest_41 rfl (lv_at hl 5 rfl) ?_
            refine va_get (D := (dC, dI)) (ci := 6) (v := .int (nI n)) (C := RX6) (T := TX6) (N := 18) hx hb hts (by decide +kernel) hown hK hP 0 rfl rfl 2 (by decide) (hts (.fieldLink RX6 35 "AchromatDeskModel" "glasses" "I") (by decide +kernel)) (fun _ h9 => h9) rfl dX6_tripletBest_42 ?_
            refine rn_ge (tgt := 157) hx hb k39 n rfl rfl (by omega) (by omega) dX6_tripletBest_45 (by decide) (fun h45 => ?_) (fun h45 => ?_)
            · exfalso; omega
            · refine lv_aload_n hx hb dX6_tripletBest_48 rfl (lv_at hl 5 rfl) ?_
              refine lv_iload hx hb dX6_tripletBest_49 (lv_at hl 2 rfl) ?_
              refine lv_iload hx hb dX6_tripletBest_51 (lv_at hl 1 rfl) ?_
              refine lv_iload hx hb dX6_tripletBest_53 (lv_at hl 0 rfl) ?_
              refine roVl (As := [.int (nI k9), .int (nI k24), .int (nI k39)]) (rest := []) (c_X6_t l dC dI cI cJ a bf ln (by omega) G n (by omega) lg lp k (by omega) rd np (by omega) M hG hL hR k9 k24 k39 (by omega) (by omega) (by omega)) ⟨hx, hb, hml, hown, hts⟩ (cwV 3 hts gX6_tripletBest_X6_t rfl rfl rfl (by decide +kernel) ⟨Nat.le_of_ble_eq_true rfl, Nat.le_of_ble_eq_true rfl⟩) (hP.sub [0, 1, 2, 3, 4, 5, 6, 7, 8] rfl) hK hN (ci := 6) rfl rfl rfl hl.1 rfl (Nat.le_of_ble_eq_true rfl) dX6_tripletBest_55 ⟨Nat.zero_le _, Nat.zero_le _⟩ (fun r hr0 => ?_)
              subst hr0
              refine lv_lconst (v := 0) hx hb dX6_tripletBest_58 (by decide) ?_
              refine rl_ifne (tgt := 69) hx hb dX6_tripletBest_59 dX6_tripletBest_60 (by decide) (fun h59 => ?_) (fun h59 => ?_)
              · refine lv_aload_n hx hb dX6_tripletBest_69 rfl (lv_at hl 5 rfl) ?_
                refine lv_iload hx hb dX6_tripletBest_70 (lv_at hl 2 rfl) ?_
                refine lv_iload hx hb dX6_tripletBest_72 (lv_at hl 1 rfl) ?_
                refine lv_iload hx hb dX6_tripletBest_74 (lv_at hl 0 rfl) ?_
                refine roVl (As := [.int (nI k9), .int (nI k24), .int (nI k39)]) (rest := []) (c_X6_strongest l dC dI cI cJ a bf ln (by omega) G n (by omega) lg lp k (by omega) rd np (by omega) M hG hL hR k9 k24 k39 (by omega) (by omega) (by omega) (by assumption)) ⟨hx, hb, hml, hown, hts⟩ (cwV 3 hts gX6_tripletBest_X6_strongest rfl rfl rfl (by decide +kernel) ⟨Nat.le_of_ble_eq_true rfl, Nat.le_of_ble_eq_true rfl⟩) (hP.sub [0, 1, 2, 3, 4, 5, 6, 7, 8] rfl) hK hN (ci := 6) rfl rfl rfl hl.1 rfl (Nat.le_of_ble_eq_true rfl) dX6_tripletBest_76 ⟨Nat.zero_le _, Nat.zero_le _⟩ (fun r hr0 => ?_)
                subst hr0
                refine lv_lstore (lv' := [(8, .long (gTri G k9 k24 k39)), (7, .int (nI k39)), (6, .int (nI k24)), (5, .int (nI k9)), (3, .long z39.2), (1, .long z39.1), (0, .ref (a 0))]) hx hb dX6_tripletBest_79 hl (by decide) rfl (fun ls hl => ?_)
                refine lv_lload hx hb dX6_tripletBest_81 (lv_at hl 0 rfl) ?_
                refine lv_lconst (v := 0) hx hb dX6_tripletBest_83 (by decide) ?_
                refine rl_iflt (tgt := 107) hx hb dX6_tripletBest_84 dX6_tripletBest_85 (by decide) (fun h84 => ?_) (fun h84 => ?_)
                · refine lv_iconst (v := 0) hx hb dX6_tripletBest_107 (by decide) ?_
                  refine lv_istore (lv' := [(10, .int 0), (8, .long (gTri G k9 k24 k39)), (7, .int (nI k39)), (6, .int (nI k24)), (5, .int (nI k9)), (3, .long z39.2), (1, .long z39.1), (0, .ref (a 0))]) hx hb dX6_tripletBest_108 hl (by decide) rfl (fun ls hl => ?_)
                  refine lv_iload hx hb dX6_tripletBest_110 (lv_at hl 0 rfl) ?_
                  refine rz_eq (tgt := 137) hx hb 0 rfl (by omega) dX6_tripletBest_112 (by decide) (fun h112 => ?_) (fun h112 => ?_)
                  · refine lv_lload_n hx hb dX6_tripletBest_137 rfl (lv_at hl 6 rfl) ?_
                    refine lv_lstore_n (lv' := [(1, .long z39.1), (10, .int 0), (8, .long (gTri G k9 k24 k39)), (7, .int (nI k39)), (6, .int (nI k24)), (5, .int (nI k9)), (3, .long z39.2), (0, .ref (a 0))]) hx hb dX6_tripletBest_138 rfl hl (by decide) rfl (fun ls hl => ?_)
                    refine lv_iload hx hb dX6_tripletBest_139 (lv_at hl 1 rfl) ?_
                    refine rz_eq (tgt := 149) hx hb 0 rfl (by omega) dX6_tripletBest_141 (by decide) (fun h141 => ?_) (fun h141 => ?_)
                    · refine lv_lload_n hx hb dX6_tripletBest_149 rfl (lv_at hl 6 rfl) ?_
                      refine lv_lstore_n (lv' := [(3, .long z39.2), (1, .long z39.1), (10, .int 0), (8, .long (gTri G k9 k24 k39)), (7, .int (nI k39)), (6, .int (nI k24)), (5, .int (nI k9)), (0, .ref (a 0))]) hx hb dX6_tripletBest_150 rfl hl (by decide) rfl (fun ls hl => ?_)
                      refine lv_iinc (v := nI (k39 + 1)) (lv' := [(7, .int (nI (k39 + 1))), (3, .long z39.2), (1, .long z39.1), (10, .int 0), (8, .long (gTri G k9 k24 k39)), (6, .int (nI k24)), (5, .int (nI k9)), (0, .ref (a 0))]) hx hb dX6_tripletBest_151 hl (k := 4) rfl (by first | rfl | exact nI_add _ _) (by decide) rfl (fun ls hl => ?_)
                      refine lv_goto (tgt := 39) hx hb dX6_tripletBest_154 (by decide) ?_
                      exact ih39 z39 ((if_neg (fun w => absurd w.1 (Int64.not_le.mpr h84))).symm) (trivial) ls (lv_sub hl [0, 5, 6, 1, 2, 7] rfl)
                    · exact absurd h141 (by decide)
                  · exact absurd h112 (by decide)
                · refine lv_lload_n hx hb dX6_tripletBest_88 rfl (lv_at hl 5 rfl) ?_
                  refine lv_ldc2 (v := (-9000000000000000008)) hx hb hown (hts (.constantLong RX6 134 (-9000000000000000008)) (by decide +kernel)) dX6_tripletBest_89 ?_
                  refine rl_ifeq (tgt := 103) hx hb dX6_tripletBest_92 dX6_tripletBest_93 (by decide) (fun h92 => ?_) (fun h92 => ?_)
                  · refine lv_iconst (v := 1) hx hb dX6_tripletBest_103 (by decide) ?_
                    refine lv_goto (tgt := 108) hx hb dX6_tripletBest_104 (by decide) ?_
                    refine lv_istore (lv' := [(10, .int 1), (8, .long (gTri G k9 k24 k39)), (7, .int (nI k39)), (6, .int (nI k24)), (5, .int (nI k9)), (3, .long z39.2), (1, .long z39.1), (0, .ref (a 0))]) hx hb dX6_tripletBest_108 hl (by decide) rfl (fun ls hl => ?_)
                    refine lv_iload hx hb dX6_tripletBest_110 (lv_at hl 0 rfl) ?_
                    refine rz_eq (tgt := 137) hx hb 1 rfl (by omega) dX6_tripletBest_112 (by decide) (fun h112 => ?_) (fun h112 => ?_)
                    · exact absurd h112 (by decide)
                    · refine lv_ldc2 (v := 10000) hx hb hown (hts (.constantLong RX6 138 (10000)) (by decide +kernel)) dX6_tripletBest_115 ?_
                      refine lv_iload hx hb dX6_tripletBest_118 (lv_at hl 4 rfl) ?_
                      refine lv_i2l (v := lN k9) hx hb dX6_tripletBest_120 (nI_l (by omega)) ?_
                      refine lv_lmul hx hb dX6_tripletBest_121 ?_
                      refine rw_topl (lN_mul 10000 k9) ?_
                      refine lv_ldc2 (v := 100) hx hb hown (hts (.constantLong RX6 186 (100)) (by decide +kernel)) dX6_tripletBest_122 ?_
                      refine lv_iload hx hb dX6_tripletBest_125 (lv_at hl 3 rfl) ?_
                      refine lv_i2l (v := lN k24) hx hb dX6_tripletBest_127 (nI_l (by omega)) ?_
                      refine lv_lmul hx hb dX6_tripletBest_128 ?_
                      refine rw_topl (lN_mul 100 k24) ?_
                      refine lv_ladd hx hb dX6_tripletBest_129 ?_
                      refine rw_topl (lN_add (10000 * k9) (100 * k24)) ?_
                      refine lv_iload hx hb dX6_tripletBest_130 (lv_at hl 2 rfl) ?_
                      refine lv_i2l (v := lN k39) hx hb dX6_tripletBest_132 (nI_l (by omega)) ?_
                      refine lv_ladd hx hb dX6_tripletBest_133 ?_
                      refine rw_topl (lN_add ((10000 * k9) + (100 * k24)) k39) ?_
                      refine lv_goto (tgt := 138) hx hb dX6_tripletBest_134 (by decide) ?_
                      refine lv_lstore_n (lv' := [(1, .long (lN (((10000 * k9) + (100 * k24)) + k39))), (10, .int 1), (8, .long (gTri G k9 k24 k39)), (7, .int (nI k39)), (6, .int (nI k24)), (5, .int (nI k9)), (3, .long z39.2), (0, .ref (a 0))]) hx hb dX6_tripletBest_138 rfl hl (by decide) rfl (fun ls hl => ?_)
                      refine lv_iload hx hb dX6_tripletBest_139 (lv_at hl 1 rfl) ?_
                      refine rz_eq (tgt := 149) hx hb 1 rfl (by omega) dX6_tripletBest_141 (by decide) (fun h141 => ?_) (fun h141 => ?_)
                      · exact absurd h141 (by decide)
                      · refine lv_lload hx hb dX6_tripletBest_144 (lv_at hl 2 rfl) ?_
                        refine lv_goto (tgt := 150) hx hb dX6_tripletBest_146 (by decide) ?_
                        refine lv_lstore_n (lv' := [(3, .long (gTri G k9 k24 k39)), (1, .long (lN (((10000 * k9) + (100 * k24)) + k39))), (10, .int 1), (8, .long (gTri G k9 k24 k39)), (7, .int (nI k39)), (6, .int (nI k24)), (5, .int (nI k9)), (0, .ref (a 0))]) hx hb dX6_tripletBest_150 rfl hl (by decide) rfl (fun ls hl => ?_)
                        refine lv_iinc (v := nI (k39 + 1)) (lv' := [(7, .int (nI (k39 + 1))), (3, .long (gTri G k9 k24 k39)), (1, .long (lN (((10000 * k9) + (100 * k24)) + k39))), (10, .int 1), (8, .long (gTri G k9 k24 k39)), (6, .int (nI k24)), (5, .int (nI k9)), (0, .ref (a 0))]) hx hb dX6_tripletBest_151 hl (k := 4) rfl (by first | rfl | exact nI_add _ _) (by decide) rfl (fun ls hl => ?_)
                        refine lv_goto (tgt := 39) hx hb dX6_tripletBest_154 (by decide) ?_
                        exact ih39 (lN (((10000 * k9) + (100 * k24)) + k39), gTri G k9 k24 k39) ((if_pos ⟨Int64.not_lt.mp h84, Or.inl h92⟩).symm) (trivial) ls (lv_sub hl [0, 5, 6, 1, 2, 7] rfl)
                  · refine lv_lload hx hb dX6_tripletBest_96 (lv_at hl 0 rfl) ?_
                    refine lv_lload_n hx hb dX6_tripletBest_98 rfl (lv_at hl 4 rfl) ?_
                    refine rl_ifge (tgt := 107) hx hb dX6_tripletBest_99 dX6_tripletBest_100 (by decide) (fun h99 => ?_) (fun h99 => ?_)
                    · refine lv_iconst (v := 0) hx hb dX6_tripletBest_107 (by decide) ?_
                      refine lv_istore (lv' := [(10, .int 0), (8, .long (gTri G k9 k24 k39)), (7, .int (nI k39)), (6, .int (nI k24)), (5, .int (nI k9)), (3, .long z39.2), (1, .long z39.1), (0, .ref (a 0))]) hx hb dX6_tripletBest_108 hl (by decide) rfl (fun ls hl => ?_)
                      refine lv_iload hx hb dX6_tripletBest_110 (lv_at hl 0 rfl) ?_
                      refine rz_eq (tgt := 137) hx hb 0 rfl (by omega) dX6_tripletBest_112 (by decide) (fun h112 => ?_) (fun h112 => ?_)
                      · refine lv_lload_n hx hb dX6_tripletBest_137 rfl (lv_at hl 6 rfl) ?_
                        refine lv_lstore_n (lv' := [(1, .long z39.1), (10, .int 0), (8, .long (gTri G k9 k24 k39)), (7, .int (nI k39)), (6, .int (nI k24)), (5, .int (nI k9)), (3, .long z39.2), (0, .ref (a 0))]) hx hb dX6_tripletBest_138 rfl hl (by decide) rfl (fun ls hl => ?_)
                        refine lv_iload hx hb dX6_tripletBest_139 (lv_at hl 1 rfl) ?_
                        refine rz_eq (tgt := 149) hx hb 0 rfl (by omega) dX6_tripletBest_141 (by decide) (fun h141 => ?_) (fun h141 => ?_)
                        · refine lv_lload_n hx hb dX6_tripletBest_149 rfl (lv_at hl 6 rfl) ?_
                          refine lv_lstore_n (lv' := [(3, .long z39.2), (1, .long z39.1), (10, .int 0), (8, .long (gTri G k9 k24 k39)), (7, .int (nI k39)), (6, .int (nI k24)), (5, .int (nI k9)), (0, .ref (a 0))]) hx hb dX6_tripletBest_150 rfl hl (by decide) rfl (fun ls hl => ?_)
                          refine lv_iinc (v := nI (k39 + 1)) (lv' := [(7, .int (nI (k39 + 1))), (3, .long z39.2), (1, .long z39.1), (10, .int 0), (8, .long (gTri G k9 k24 k39)), (6, .int (nI k24)), (5, .int (nI k9)), (0, .ref (a 0))]) hx hb dX6_tripletBest_151 hl (k := 4) rfl (by first | rfl | exact nI_add _ _) (by decide) rfl (fun ls hl => ?_)
                          refine lv_goto (tgt := 39) hx hb dX6_tripletBest_154 (by decide) ?_
                          exact ih39 z39 ((if_neg (fun w => w.2.elim h92 h99)).symm) (trivial) ls (lv_sub hl [0, 5, 6, 1, 2, 7] rfl)
                        · exact absurd h141 (by decide)
                      · exact absurd h112 (by decide)
                    · refine lv_iconst (v := 1) hx hb dX6_tripletBest_103 (by decide) ?_
                      refine lv_goto (tgt := 108) hx hb dX6_tripletBest_104 (by decide) ?_
                      refine lv_istore (lv' := [(10, .int 1), (8, .long (gTri G k9 k24 k39)), (7, .int (nI k39)), (6, .int (nI k24)), (5, .int (nI k9)), (3, .long z39.2), (1, .long z39.1), (0, .ref (a 0))]) hx hb dX6_tripletBest_108 hl (by decide) rfl (fun ls hl => ?_)
                      refine lv_iload hx hb dX6_tripletBest_110 (lv_at hl 0 rfl) ?_
                      refine rz_eq (tgt := 137) hx hb 1 rfl (by omega) dX6_tripletBest_112 (by decide) (fun h112 => ?_) (fun h112 => ?_)
                      · exact absurd h112 (by decide)
                      · refine lv_ldc2 (v := 10000) hx hb hown (hts (.constantLong RX6 138 (10000)) (by decide +kernel)) dX6_tripletBest_115 ?_
                        refine lv_iload hx hb dX6_tripletBest_118 (lv_at hl 4 rfl) ?_
                        refine lv_i2l (v := lN k9) hx hb dX6_tripletBest_120 (nI_l (by omega)) ?_
                        refine lv_lmul hx hb dX6_tripletBest_121 ?_
                        refine rw_topl (lN_mul 10000 k9) ?_
                        refine lv_ldc2 (v := 100) hx hb hown (hts (.constantLong RX6 186 (100)) (by decide +kernel)) dX6_tripletBest_122 ?_
                        refine lv_iload hx hb dX6_tripletBest_125 (lv_at hl 3 rfl) ?_
                        refine lv_i2l (v := lN k24) hx hb dX6_tripletBest_127 (nI_l (by omega)) ?_
                        refine lv_lmul hx hb dX6_tripletBest_128 ?_
                        refine rw_topl (lN_mul 100 k24) ?_
                        refine lv_ladd hx hb dX6_tripletBest_129 ?_
                        refine rw_topl (lN_add (10000 * k9) (100 * k24)) ?_
                        refine lv_iload hx hb dX6_tripletBest_130 (lv_at hl 2 rfl) ?_
                        refine lv_i2l (v := lN k39) hx hb dX6_tripletBest_132 (nI_l (by omega)) ?_
                        refine lv_ladd hx hb dX6_tripletBest_133 ?_
                        refine rw_topl (lN_add ((10000 * k9) + (100 * k24)) k39) ?_
                        refine lv_goto (tgt := 138) hx hb dX6_tripletBest_134 (by decide) ?_
                        refine lv_lstore_n (lv' := [(1, .long (lN (((10000 * k9) + (100 * k24)) + k39))), (10, .int 1), (8, .long (gTri G k9 k24 k39)), (7, .int (nI k39)), (6, .int (nI k24)), (5, .int (nI k9)), (3, .long z39.2), (0, .ref (a 0))]) hx hb dX6_tripletBest_138 rfl hl (by decide) rfl (fun ls hl => ?_)
                        refine lv_iload hx hb dX6_tripletBest_139 (lv_at hl 1 rfl) ?_
                        refine rz_eq (tgt := 149) hx hb 1 rfl (by omega) dX6_tripletBest_141 (by decide) (fun h141 => ?_) (fun h141 => ?_)
                        · exact absurd h141 (by decide)
                        · refine lv_lload hx hb dX6_tripletBest_144 (lv_at hl 2 rfl) ?_
                          refine lv_goto (tgt := 150) hx hb dX6_tripletBest_146 (by decide) ?_
                          refine lv_lstore_n (lv' := [(3, .long (gTri G k9 k24 k39)), (1, .long (lN (((10000 * k9) + (100 * k24)) + k39))), (10, .int 1), (8, .long (gTri G k9 k24 k39)), (7, .int (nI k39)), (6, .int (nI k24)), (5, .int (nI k9)), (0, .ref (a 0))]) hx hb dX6_tripletBest_150 rfl hl (by decide) rfl (fun ls hl => ?_)
                          refine lv_iinc (v := nI (k39 + 1)) (lv' := [(7, .int (nI (k39 + 1))), (3, .long (gTri G k9 k24 k39)), (1, .long (lN (((10000 * k9) + (100 * k24)) + k39))), (10, .int 1), (8, .long (gTri G k9 k24 k39)), (6, .int (nI k24)), (5, .int (nI k9)), (0, .ref (a 0))]) hx hb dX6_tripletBest_151 hl (k := 4) rfl (by first | rfl | exact nI_add _ _) (by decide) rfl (fun ls hl => ?_)
                          refine lv_goto (tgt := 39) hx hb dX6_tripletBest_154 (by decide) ?_
                          exact ih39 (lN (((10000 * k9) + (100 * k24)) + k39), gTri G k9 k24 k39) ((if_pos ⟨Int64.not_lt.mp h84, Or.inr h99⟩).symm) (trivial) ls (lv_sub hl [0, 5, 6, 1, 2, 7] rfl)
              · refine lv_ldc2 (v := (-1)) hx hb hown (hts (.constantLong RX6 203 (-1)) (by decide +kernel)) dX6_tripletBest_63 ?_
                refine lv_goto (tgt := 79) hx hb dX6_tripletBest_66 (by decide) ?_
                refine lv_lstore (lv' := [(8, .long (-1)), (7, .int (nI k39)), (6, .int (nI k24)), (5, .int (nI k9)), (3, .long z39.2), (1, .long z39.1), (0, .ref (a 0))]) hx hb dX6_tripletBest_79 hl (by decide) rfl (fun ls hl => ?_)
                refine lv_lload hx hb dX6_tripletBest_81 (lv_at hl 0 rfl) ?_
                refine lv_lconst (v := 0) hx hb dX6_tripletBest_83 (by decide) ?_
                refine rl_iflt (tgt := 107) hx hb dX6_tripletBest_84 dX6_tripletBest_85 (by decide) (fun h84 => ?_) (fun h84 => ?_)
                · refine lv_iconst (v := 0) hx hb dX6_tripletBest_107 (by decide) ?_
                  refine lv_istore (lv' := [(10, .int 0), (8, .long (-1)), (7, .int (nI k39)), (6, .int (nI k24)), (5, .int (nI k9)), (3, .long z39.2), (1, .long z39.1), (0, .ref (a 0))]) hx hb dX6_tripletBest_108 hl (by decide) rfl (fun ls hl => ?_)
                  refine lv_iload hx hb dX6_tripletBest_110 (lv_at hl 0 rfl) ?_
                  refine rz_eq (tgt := 137) hx hb 0 rfl (by omega) dX6_tripletBest_112 (by decide) (fun h112 => ?_) (fun h112 => ?_)
                  · refine lv_lload_n hx hb dX6_tripletBest_137 rfl (lv_at hl 6 rfl) ?_
                    refine lv_lstore_n (lv' := [(1, .long z39.1), (10, .int 0), (8, .long (-1)), (7, .int (nI k39)), (6, .int (nI k24)), (5, .int (nI k9)), (3, .long z39.2), (0, .ref (a 0))]) hx hb dX6_tripletBest_138 rfl hl (by decide) rfl (fun ls hl => ?_)
                    refine lv_iload hx hb dX6_tripletBest_139 (lv_at hl 1 rfl) ?_
                    refine rz_eq (tgt := 149) hx hb 0 rfl (by omega) dX6_tripletBest_141 (by decide) (fun h141 => ?_) (fun h141 => ?_)
                    · refine lv_lload_n hx hb dX6_tripletBest_149 rfl (lv_at hl 6 rfl) ?_
                      refine lv_lstore_n (lv' := [(3, .long z39.2), (1, .long z39.1), (10, .int 0), (8, .long (-1)), (7, .int (nI k39)), (6, .int (nI k24)), (5, .int (nI k9)), (0, .ref (a 0))]) hx hb dX6_tripletBest_150 rfl hl (by decide) rfl (fun ls hl => ?_)
                      refine lv_iinc (v := nI (k39 + 1)) (lv' := [(7, .int (nI (k39 + 1))), (3, .long z39.2), (1, .long z39.1), (10, .int 0), (8, .long (-1)), (6, .int (nI k24)), (5, .int (nI k9)), (0, .ref (a 0))]) hx hb dX6_tripletBest_151 hl (k := 4) rfl (by first | rfl | exact nI_add _ _) (by decide) rfl (fun ls hl => ?_)
                      refine lv_goto (tgt := 39) hx hb dX6_tripletBest_154 (by decide) ?_
                      exact ih39 z39 ((by rw [gTri_0 h59]; exact (pick_neg _ _).symm)) (trivial) ls (lv_sub hl [0, 5, 6, 1, 2, 7] rfl)
                    · exact absurd h141 (by decide)
                  · exact absurd h112 (by decide)
                · exact absurd h84 (by decide)
          · refine lv_iload hx hb dX6_tripletBest_39 (lv_at hl 0 rfl) ?_
            refine lv_aload_n hx hb dX6_tripletBest_41 rfl (lv_at hl 5 rfl) ?_
            refine va_get (D := (dC, dI)) (ci := 6) (v := .int (nI n)) (C := RX6) (T := TX6) (N := 18) hx hb hts (by decide +kernel) hown hK hP 0 rfl rfl 2 (by decide) (hts (.fieldLink RX6 35 "AchromatDeskModel" "glasses" "I") (by decide +kernel)) (fun _ h9 => h9) rfl dX6_tripletBest_42 ?_
            refine rn_ge (tgt := 157) hx hb n n rfl rfl (by omega) (by omega) dX6_tripletBest_45 (by decide) (fun h45 => ?_) (fun h45 => ?_)
            · refine lv_iinc (v := nI (k24 + 1)) (lv' := [(6, .int (nI (k24 + 1))), (7, .int (nI n)), (5, .int (nI k9)), (3, .long z39.2), (1, .long z39.1), (0, .ref (a 0))]) hx hb dX6_tripletBest_157 hl (k := 1) rfl (by first | rfl | exact nI_add _ _) (by decide) rfl (fun ls hl => ?_)
              refine lv_goto (tgt := 24) hx hb dX6_tripletBest_160 (by decide) ?_
              exact ih24 z39 (hz39) (trivial) ls (lv_sub hl [0, 2, 3, 4, 5] rfl)
            · exfalso; omega
      · refine lv_iload hx hb dX6_tripletBest_24 (lv_at hl 0 rfl) ?_
        refine lv_aload_n hx hb dX6_tripletBest_26 rfl (lv_at hl 4 rfl) ?_
        refine va_get (D := (dC, dI)) (ci := 6) (v := .int (nI n)) (C := RX6) (T := TX6) (N := 18) hx hb hts (by decide +kernel) hown hK hP 0 rfl rfl 2 (by decide) (hts (.fieldLink RX6 35 "AchromatDeskModel" "glasses" "I") (by decide +kernel)) (fun _ h9 => h9) rfl dX6_tripletBest_27 ?_
        refine rn_ge (tgt := 163) hx hb n n rfl rfl (by omega) (by omega) dX6_tripletBest_30 (by decide) (fun h30 => ?_) (fun h30 => ?_)
        · refine lv_iinc (v := nI (k9 + 1)) (lv' := [(5, .int (nI (k9 + 1))), (6, .int (nI n)), (3, .long z24.2), (1, .long z24.1), (0, .ref (a 0))]) hx hb dX6_tripletBest_163 hl (k := 1) rfl (by first | rfl | exact nI_add _ _) (by decide) rfl (fun ls hl => ?_)
          refine lv_goto (tgt := 9) hx hb dX6_tripletBest_166 (by decide) ?_
          exact ih9 z24 (hz24) (trivial) ls (lv_sub hl [0, 2, 3, 4] rfl)
        · exfalso; omega
  · refine lv_iload hx hb dX6_tripletBest_9 (lv_at hl 0 rfl) ?_
    refine lv_aload_n hx hb dX6_tripletBest_11 rfl (lv_at hl 3 rfl) ?_
    refine va_get (D := (dC, dI)) (ci := 6) (v := .int (nI n)) (C := RX6) (T := TX6) (N := 18) hx hb hts (by decide +kernel) hown hK hP 0 rfl rfl 2 (by decide) (hts (.fieldLink RX6 35 "AchromatDeskModel" "glasses" "I") (by decide +kernel)) (fun _ h9 => h9) rfl dX6_tripletBest_12 ?_
    refine rn_ge (tgt := 169) hx hb n n rfl rfl (by omega) (by omega) dX6_tripletBest_15 (by decide) (fun h15 => ?_) (fun h15 => ?_)
    · refine lv_lload_n hx hb dX6_tripletBest_169 rfl (lv_at hl 2 rfl) ?_
      exact W.lret hx hb hr (fun t ht hW => ⟨_, rfl, by rw [hz9]; rfl, ht⟩) (fun _ h => absurd h List.not_mem_nil) dX6_tripletBest_170
    · exfalso; omega

set_option maxHeartbeats 4000000 in
set_option maxRecDepth 100000 in
theorem c_X6_bestTriplet (l : Launch) (dC : Nat → ClassId) (dI : Nat → Nat → Nat) (cI cJ : ClassId) (a : Nat → Nat) (bf : Nat → Int32) (ln : Nat) (hln : ln ≤ 28) (G : GL) (n : Nat) (hn : n ≤ 20) (lg lp : Nat → Int32) (k : Nat) (hk : k ≤ 8) (rd : Nat → Int32) (np : Nat) (hp : np ≤ 16) (M : MS) (hG : gOK G n) (hL : lOK lg k n) (hR : rOK rd np)  : Met l yX6_bestTriplet wsX6_bestTriplet ({ frames := 6, cells := 0, slots := 0, locals := 151 }) (va_Pc [.ref (a 0)] (RO (dC, dI) (tyK cI cJ) ([(a 0, .inr (6, [.int (nI ln), .ref (a 1), .int (nI n), .ref (a 2), .ref (a 3), .int (nI k), .ref (a 4), .ref (a 5), .int (nI np), .ref (a 6), .long M.1, .ref (a 7), .int M.2.1, .int M.2.2.1, .int M.2.2.2.1, .int M.2.2.2.2.1, .ref (a 8), .long M.2.2.2.2.2.1])), (a 1, .inl (cI, 28, .inl bf)), (a 2, .inl (cJ, 20, .inr (.inl (gK G)))), (a 3, .inl (cI, 60, .inl (ilv G))), (a 4, .inl (cI, 8, .inl lg)), (a 5, .inl (cI, 8, .inl lp)), (a 6, .inl (cI, 16, .inl rd)), (a 7, .inl (cI, 3, .inl M.2.2.2.2.2.2.1)), (a 8, .inl (cJ, 3, .inr (.inl M.2.2.2.2.2.2.2)))]))) (vp_Sl (fun r => r = (bTri G n).1)) 0 0 (fun _ => False) := by
  refine Met.ofW (cc := cX6_bestTriplet) (maxL := 1) (ret := (some .long)) (by decide) rfl ?_
  intro p e s m args below meth c s₁ B hml hv
  obtain ⟨rfl, hP, hK, hN⟩ := hv
  have hx := B.exec
  have hb := B.bytes
  have hr := B.returns
  have hts := atoms_spec (ws := wsX6_bestTriplet) B.pre
  have hown : s.vm.findClass RX6 = some m.cls := findClass_of_methodNamed B.named
  have hlocks := B.notSynchronized
  have hP : va_P (dC, dI) vwCl [(a 0, .inr (6, [.int (nI ln), .ref (a 1), .int (nI n), .ref (a 2), .ref (a 3), .int (nI k), .ref (a 4), .ref (a 5), .int (nI np), .ref (a 6), .long M.1, .ref (a 7), .int M.2.1, .int M.2.2.1, .int M.2.2.2.1, .int M.2.2.2.2.1, .ref (a 8), .long M.2.2.2.2.2.1])), (a 1, .inl (cI, 28, .inl bf)), (a 2, .inl (cJ, 20, .inr (.inl (gK G)))), (a 3, .inl (cI, 60, .inl (ilv G))), (a 4, .inl (cI, 8, .inl lg)), (a 5, .inl (cI, 8, .inl lp)), (a 6, .inl (cI, 16, .inl rd)), (a 7, .inl (cI, 3, .inl M.2.2.2.2.2.2.1)), (a 8, .inl (cJ, 3, .inr (.inl M.2.2.2.2.2.2.2)))] s.heap := hP
  have hl := lv_entry ([.ref (a 0)]) (n := 1) (Nat.le_of_ble_eq_true rfl)
  rw [lg_entry_eq]
  generalize (lg_sl ([.ref (a 0)]) ++ List.replicate (1 - (lg_sl ([.ref (a 0)])).length) Slot.unset).toArray = ls at hl ⊢
  have hl : lv_has ls 1 [(0, .ref (a 0))] := hl
  refine lv_aload_n hx hb dX6_bestTriplet_0 rfl (lv_at hl 0 rfl) ?_
  refine roVl (As := []) (rest := []) (c_X6_tripletBest l dC dI cI cJ a bf ln (by omega) G n (by omega) lg lp k (by omega) rd np (by omega) M hG hL hR ) ⟨hx, hb, hml, hown, hts⟩ (cwV 0 hts gX6_bestTriplet_X6_tripletBest rfl rfl rfl (by decide +kernel) ⟨Nat.le_of_ble_eq_true rfl, Nat.le_of_ble_eq_true rfl⟩) (hP.sub [0, 1, 2, 3, 4, 5, 6, 7, 8] rfl) hK hN (ci := 6) rfl rfl rfl hl.1 rfl (Nat.le_of_ble_eq_true rfl) dX6_bestTriplet_1 ⟨Nat.zero_le _, Nat.zero_le _⟩ (fun r hr0 => ?_)
  subst hr0
  exact W.lret hx hb hr (fun t ht hW => ⟨_, rfl, rfl, ht⟩) (fun _ h => absurd h List.not_mem_nil) dX6_bestTriplet_4

set_option maxHeartbeats 4000000 in
set_option maxRecDepth 100000 in
theorem c_X6_lensPower (l : Launch) (dC : Nat → ClassId) (dI : Nat → Nat → Nat) (cI cJ : ClassId) (a : Nat → Nat) (bf : Nat → Int32) (ln : Nat) (hln : ln ≤ 28) (G : GL) (n : Nat) (hn : n ≤ 20) (lg lp : Nat → Int32) (k : Nat) (hk : k ≤ 8) (rd : Nat → Int32) (np : Nat) (hp : np ≤ 16) (M : MS) (hG : gOK G n) (hL : lOK lg k n) (hR : rOK rd np) (j g c0 : Nat) (hj : j < k) (hg : g < n) (hc0 : c0 < 3) : Met l yX6_lensPower wsX6_lensPower ({ frames := 1, cells := 0, slots := 0, locals := 25 }) (va_Pc [.ref (a 0), .int (nI j), .int (nI g), .int (nI c0)] (RO (dC, dI) (tyK cI cJ) ([(a 0, .inr (6, [.int (nI ln), .ref (a 1), .int (nI n), .ref (a 2), .ref (a 3), .int (nI k), .ref (a 4), .ref (a 5), .int (nI np), .ref (a 6), .long M.1, .ref (a 7), .int M.2.1, .int M.2.2.1, .int M.2.2.2.1, .int M.2.2.2.2.1, .ref (a 8), .long M.2.2.2.2.2.1])), (a 1, .inl (cI, 28, .inl bf)), (a 2, .inl (cJ, 20, .inr (.inl (gK G)))), (a 3, .inl (cI, 60, .inl (ilv G))), (a 4, .inl (cI, 8, .inl lg)), (a 5, .inl (cI, 8, .inl lp)), (a 6, .inl (cI, 16, .inl rd)), (a 7, .inl (cI, 3, .inl M.2.2.2.2.2.2.1)), (a 8, .inl (cJ, 3, .inr (.inl M.2.2.2.2.2.2.2)))]))) (vp_Sl (fun r => r = vL G lg lp j g (nI c0))) 0 0 (fun _ => False) := by
  refine Met.ofW (cc := cX6_lensPower) (maxL := 4) (ret := (some .long)) (by decide) rfl ?_
  intro p e s m args below meth c s₁ B hml hv
  obtain ⟨rfl, hP, hK, hN⟩ := hv
  have hx := B.exec
  have hb := B.bytes
  have hr := B.returns
  have hts := atoms_spec (ws := wsX6_lensPower) B.pre
  have hown : s.vm.findClass RX6 = some m.cls := findClass_of_methodNamed B.named
  have hlocks := B.notSynchronized
  have hP : va_P (dC, dI) vwCl [(a 0, .inr (6, [.int (nI ln), .ref (a 1), .int (nI n), .ref (a 2), .ref (a 3), .int (nI k), .ref (a 4), .ref (a 5), .int (nI np), .ref (a 6), .long M.1, .ref (a 7), .int M.2.1, .int M.2.2.1, .int M.2.2.2.1, .int M.2.2.2.2.1, .ref (a 8), .long M.2.2.2.2.2.1])), (a 1, .inl (cI, 28, .inl bf)), (a 2, .inl (cJ, 20, .inr (.inl (gK G)))), (a 3, .inl (cI, 60, .inl (ilv G))), (a 4, .inl (cI, 8, .inl lg)), (a 5, .inl (cI, 8, .inl lp)), (a 6, .inl (cI, 16, .inl rd)), (a 7, .inl (cI, 3, .inl M.2.2.2.2.2.2.1)), (a 8, .inl (cJ, 3, .inr (.inl M.2.2.2.2.2.2.2)))] s.heap := hP
  have hl := lv_entry ([.ref (a 0), .int (nI j), .int (nI g), .int (nI c0)]) (n := 4) (Nat.le_of_ble_eq_true rfl)
  rw [lg_entry_eq]
  generalize (lg_sl ([.ref (a 0), .int (nI j), .int (nI g), .int (nI c0)]) ++ List.replicate (4 - (lg_sl ([.ref (a 0), .int (nI j), .int (nI g), .int (nI c0)])).length) Slot.unset).toArray = ls at hl ⊢
  have hl : lv_has ls 4 [(0, .ref (a 0)), (1, .int (nI j)), (2, .int (nI g)), (3, .int (nI c0))] := hl
  refine lv_aload_n hx hb dX6_lensPower_0 rfl (lv_at hl 0 rfl) ?_
  refine va_get (D := (dC, dI)) (ci := 6) (v := .ref (a 5)) (C := RX6) (T := TX6) (N := 18) hx hb hts (by decide +kernel) hown hK hP 0 rfl rfl 7 (by decide) (hts (.fieldLink RX6 23 "AchromatDeskModel" "powerOf" "[I") (by decide +kernel)) (fun _ h9 => h9) rfl dX6_lensPower_1 ?_
  refine lv_iload_n hx hb dX6_lensPower_4 rfl (lv_at hl 1 rfl) ?_
  refine ar_iald hx hb hK hP 5 0 rfl rfl j rfl (by omega) (by omega) dX6_lensPower_5 ?_
  refine lv_i2l (v := (lp j).toInt64) hx hb dX6_lensPower_6 rfl ?_
  refine lv_ldc2 (v := 1000) hx hb hown (hts (.constantLong RX6 115 (1000)) (by decide +kernel)) dX6_lensPower_7 ?_
  refine lv_lmul hx hb dX6_lensPower_10 ?_
  refine lv_aload_n hx hb dX6_lensPower_11 rfl (lv_at hl 0 rfl) ?_
  refine va_get (D := (dC, dI)) (ci := 6) (v := .ref (a 3)) (C := RX6) (T := TX6) (N := 18) hx hb hts (by decide +kernel) hown hK hP 0 rfl rfl 4 (by decide) (hts (.fieldLink RX6 17 "AchromatDeskModel" "indices" "[I") (by decide +kernel)) (fun _ h9 => h9) rfl dX6_lensPower_12 ?_
  refine lv_iconst (v := 3) hx hb dX6_lensPower_15 (by decide) ?_
  refine lv_iload_n hx hb dX6_lensPower_16 rfl (lv_at hl 2 rfl) ?_
  refine lv_imul hx hb dX6_lensPower_17 ?_
  refine rw_topi (pk_mul 3 g) ?_
  refine lv_iload_n hx hb dX6_lensPower_18 rfl (lv_at hl 3 rfl) ?_
  refine lv_iadd hx hb dX6_lensPower_19 ?_
  refine rw_topi (nI_add (3 * g) c0) ?_
  refine ar_iald hx hb hK hP 3 0 rfl rfl ((3 * g) + c0) rfl (by omega) (by omega) dX6_lensPower_20 ?_
  refine rw_topi (show ((ilv G) ((3 * g) + c0) : Int32) = (vN G g (nI c0) : Int32) from ilv_c G g (by omega)) ?_
  refine lv_ldc (v := 100000) hx hb hown (hts (.constant RX6 48 (100000)) (by decide +kernel)) dX6_lensPower_21 ?_
  refine lv_isub hx hb dX6_lensPower_23 ?_
  refine lv_i2l (v := ((vN G g (nI c0)) - 100000).toInt64) hx hb dX6_lensPower_24 rfl ?_
  refine rw_topl (show (((vN G g (nI c0)) - 100000).toInt64 : Int64) = ((vN G g (nI c0)).toInt64 - 100000 : Int64) from vN_sub hG hg _) ?_
  refine lv_lmul hx hb dX6_lensPower_25 ?_
  refine lv_aload_n hx hb dX6_lensPower_26 rfl (lv_at hl 0 rfl) ?_
  refine lv_aload_n hx hb dX6_lensPower_27 rfl (lv_at hl 0 rfl) ?_
  refine va_get (D := (dC, dI)) (ci := 6) (v := .ref (a 4)) (C := RX6) (T := TX6) (N := 18) hx hb hts (by decide +kernel) hown hK hP 0 rfl rfl 6 (by decide) (hts (.fieldLink RX6 20 "AchromatDeskModel" "glassOf" "[I") (by decide +kernel)) (fun _ h9 => h9) rfl dX6_lensPower_28 ?_
  refine lv_iload_n hx hb dX6_lensPower_31 rfl (lv_at hl 1 rfl) ?_
  refine ar_iald hx hb hK hP 4 0 rfl rfl j rfl (by omega) (by omega) dX6_lensPower_32 ?_
  have hq := (hL j (by omega)).2
  have hne := vA_ne hG hq
  refine rw_topi (show (lg j : Int32) = (nI (ix (lg j)) : Int32) from (hL j (by omega)).1) ?_
  refine roVl (As := [.int (nI (ix (lg j)))]) (rest := [.long ((((lp j).toInt64) * 1000) * ((vN G g (nI c0)).toInt64 - 100000))]) (c_X6_a l dC dI cI cJ a bf ln (by omega) G n (by omega) lg lp k (by omega) rd np (by omega) M hG hL hR (ix (lg j)) (by omega)) ⟨hx, hb, hml, hown, hts⟩ (cwV 1 hts gX6_lensPower_X6_a rfl rfl rfl (by decide +kernel) ⟨Nat.le_of_ble_eq_true rfl, Nat.le_of_ble_eq_true rfl⟩) (hP.sub [0, 1, 2, 3, 4, 5, 6, 7, 8] rfl) hK hN (ci := 6) rfl rfl rfl hl.1 rfl (Nat.le_of_ble_eq_true rfl) dX6_lensPower_33 ⟨Nat.zero_le _, Nat.zero_le _⟩ (fun r hr0 => ?_)
  subst hr0
  refine stSl (As := [.long ((((lp j).toInt64) * 1000) * ((vN G g (nI c0)).toInt64 - 100000)), .long (vA G (ix (lg j)))]) (rest := []) (c_X6_floor l ((((lp j).toInt64) * 1000) * ((vN G g (nI c0)).toInt64 - 100000)) (vA G (ix (lg j))) (by assumption)) ⟨hx, hb, hml, hown, hts⟩ (va_cwS 2 hts gX6_lensPower_X6_floor rfl rfl rfl (by decide +kernel) ⟨Nat.le_of_ble_eq_true rfl, Nat.le_of_ble_eq_true rfl⟩) rfl hl.1 rfl (Nat.le_of_ble_eq_true rfl) dX6_lensPower_36 ⟨Nat.zero_le _, Nat.zero_le _⟩ (fun r hr0 => ?_)
  subst hr0
  exact W.lret hx hb hr (fun t ht hW => ⟨_, rfl, rfl, ht⟩) (fun _ h => absurd h List.not_mem_nil) dX6_lensPower_39

set_option maxHeartbeats 4000000 in
set_option maxRecDepth 100000 in
theorem c_X6_systemNow (l : Launch) (dC : Nat → ClassId) (dI : Nat → Nat → Nat) (cI cJ : ClassId) (a : Nat → Nat) (bf : Nat → Int32) (ln : Nat) (hln : ln ≤ 28) (G : GL) (n : Nat) (hn : n ≤ 20) (lg lp : Nat → Int32) (k : Nat) (hk : k ≤ 8) (rd : Nat → Int32) (np : Nat) (hp : np ≤ 16) (M : MS) (hG : gOK G n) (hL : lOK lg k n) (hR : rOK rd np) (c0 : Nat) (hc0 : c0 < 3) : Met l yX6_systemNow wsX6_systemNow ({ frames := 2, cells := 0, slots := 0, locals := 48 }) (va_Pc [.ref (a 0), .int (nI c0)] (RO (dC, dI) (tyK cI cJ) ([(a 0, .inr (6, [.int (nI ln), .ref (a 1), .int (nI n), .ref (a 2), .ref (a 3), .int (nI k), .ref (a 4), .ref (a 5), .int (nI np), .ref (a 6), .long M.1, .ref (a 7), .int M.2.1, .int M.2.2.1, .int M.2.2.2.1, .int M.2.2.2.2.1, .ref (a 8), .long M.2.2.2.2.2.1])), (a 1, .inl (cI, 28, .inl bf)), (a 2, .inl (cJ, 20, .inr (.inl (gK G)))), (a 3, .inl (cI, 60, .inl (ilv G))), (a 4, .inl (cI, 8, .inl lg)), (a 5, .inl (cI, 8, .inl lp)), (a 6, .inl (cI, 16, .inl rd)), (a 7, .inl (cI, 3, .inl M.2.2.2.2.2.2.1)), (a 8, .inl (cJ, 3, .inr (.inl M.2.2.2.2.2.2.2)))]))) (vp_Sl (fun r => r = vP G lg lp (nI c0) k)) 0 0 (fun _ => False) := by
  refine Met.ofW (cc := cX6_systemNow) (maxL := 5) (ret := (some .long)) (by decide) rfl ?_
  intro p e s m args below meth c s₁ B hml hv
  obtain ⟨rfl, hP, hK, hN⟩ := hv
  have hx := B.exec
  have hb := B.bytes
  have hr := B.returns
  have hts := atoms_spec (ws := wsX6_systemNow) B.pre
  have hown : s.vm.findClass RX6 = some m.cls := findClass_of_methodNamed B.named
  have hlocks := B.notSynchronized
  have hP : va_P (dC, dI) vwCl [(a 0, .inr (6, [.int (nI ln), .ref (a 1), .int (nI n), .ref (a 2), .ref (a 3), .int (nI k), .ref (a 4), .ref (a 5), .int (nI np), .ref (a 6), .long M.1, .ref (a 7), .int M.2.1, .int M.2.2.1, .int M.2.2.2.1, .int M.2.2.2.2.1, .ref (a 8), .long M.2.2.2.2.2.1])), (a 1, .inl (cI, 28, .inl bf)), (a 2, .inl (cJ, 20, .inr (.inl (gK G)))), (a 3, .inl (cI, 60, .inl (ilv G))), (a 4, .inl (cI, 8, .inl lg)), (a 5, .inl (cI, 8, .inl lp)), (a 6, .inl (cI, 16, .inl rd)), (a 7, .inl (cI, 3, .inl M.2.2.2.2.2.2.1)), (a 8, .inl (cJ, 3, .inr (.inl M.2.2.2.2.2.2.2)))] s.heap := hP
  have hl := lv_entry ([.ref (a 0), .int (nI c0)]) (n := 5) (Nat.le_of_ble_eq_true rfl)
  rw [lg_entry_eq]
  generalize (lg_sl ([.ref (a 0), .int (nI c0)]) ++ List.replicate (5 - (lg_sl ([.ref (a 0), .int (nI c0)])).length) Slot.unset).toArray = ls at hl ⊢
  have hl : lv_has ls 5 [(0, .ref (a 0)), (1, .int (nI c0))] := hl
  refine lv_lconst (v := 0) hx hb dX6_systemNow_0 (by decide) ?_
  refine lv_lstore_n (lv' := [(2, .long 0), (0, .ref (a 0)), (1, .int (nI c0))]) hx hb dX6_systemNow_1 rfl hl (by decide) rfl (fun ls hl => ?_)
  refine lv_iconst (v := 0) hx hb dX6_systemNow_2 (by decide) ?_
  refine lv_istore (lv' := [(4, .int 0), (2, .long 0), (0, .ref (a 0)), (1, .int (nI c0))]) hx hb dX6_systemNow_3 hl (by decide) rfl (fun ls hl => ?_)
  refine rloopZ (nL := 5) 0 k (fun j z => z + vL G lg lp j (ix (lg j)) (nI c0)) 0 (fun k5 z5 => [(4, .int (nI k5)), (2, .long z5), (0, .ref (a 0)), (1, .int (nI c0))]) (fun _ _ => True) (by omega) (trivial) (lv_sub hl [0, 1, 2, 3] rfl) (fun k5 z5 hlo5 hk5 hz5 hI5 ls hl ih5 => ?_) (fun z5 hz5 hI5 ls hl => ?_)
  · refine lv_iload hx hb dX6_systemNow_5 (lv_at hl 0 rfl) ?_
    refine lv_aload_n hx hb dX6_systemNow_7 rfl (lv_at hl 2 rfl) ?_
    refine va_get (D := (dC, dI)) (ci := 6) (v := .int (nI k)) (C := RX6) (T := TX6) (N := 18) hx hb hts (by decide +kernel) hown hK hP 0 rfl rfl 5 (by decide) (hts (.fieldLink RX6 43 "AchromatDeskModel" "lenses" "I") (by decide +kernel)) (fun _ h9 => h9) rfl dX6_systemNow_8 ?_
    refine rn_ge (tgt := 37) hx hb k5 k rfl rfl (by omega) (by omega) dX6_systemNow_11 (by decide) (fun h11 => ?_) (fun h11 => ?_)
    · exfalso; omega
    · refine lv_lload_n hx hb dX6_systemNow_14 rfl (lv_at hl 1 rfl) ?_
      refine lv_aload_n hx hb dX6_systemNow_15 rfl (lv_at hl 2 rfl) ?_
      refine lv_iload hx hb dX6_systemNow_16 (lv_at hl 0 rfl) ?_
      refine lv_aload_n hx hb dX6_systemNow_18 rfl (lv_at hl 2 rfl) ?_
      refine va_get (D := (dC, dI)) (ci := 6) (v := .ref (a 4)) (C := RX6) (T := TX6) (N := 18) hx hb hts (by decide +kernel) hown hK hP 0 rfl rfl 6 (by decide) (hts (.fieldLink RX6 20 "AchromatDeskModel" "glassOf" "[I") (by decide +kernel)) (fun _ h9 => h9) rfl dX6_systemNow_19 ?_
      refine lv_iload hx hb dX6_systemNow_22 (lv_at hl 0 rfl) ?_
      refine ar_iald hx hb hK hP 4 0 rfl rfl k5 rfl (by omega) (by omega) dX6_systemNow_24 ?_
      have hq := (hL k5 (by omega)).2
      refine rw_topi (show (lg k5 : Int32) = (nI (ix (lg k5)) : Int32) from (hL k5 (by omega)).1) ?_
      refine lv_iload_n hx hb dX6_systemNow_25 rfl (lv_at hl 3 rfl) ?_
      refine roVl (As := [.int (nI k5), .int (nI (ix (lg k5))), .int (nI c0)]) (rest := [.long z5]) (c_X6_lensPower l dC dI cI cJ a bf ln (by omega) G n (by omega) lg lp k (by omega) rd np (by omega) M hG hL hR k5 (ix (lg k5)) c0 (by omega) (by omega) (by omega)) ⟨hx, hb, hml, hown, hts⟩ (cwV 3 hts gX6_systemNow_X6_lensPower rfl rfl rfl (by decide +kernel) ⟨Nat.le_of_ble_eq_true rfl, Nat.le_of_ble_eq_true rfl⟩) (hP.sub [0, 1, 2, 3, 4, 5, 6, 7, 8] rfl) hK hN (ci := 6) rfl rfl rfl hl.1 rfl (Nat.le_of_ble_eq_true rfl) dX6_systemNow_26 ⟨Nat.zero_le _, Nat.zero_le _⟩ (fun r hr0 => ?_)
      subst hr0
      refine lv_ladd hx hb dX6_systemNow_29 ?_
      refine lv_lstore_n (lv' := [(2, .long (z5 + (vL G lg lp k5 (ix (lg k5)) (nI c0)))), (4, .int (nI k5)), (0, .ref (a 0)), (1, .int (nI c0))]) hx hb dX6_systemNow_30 rfl hl (by decide) rfl (fun ls hl => ?_)
      refine lv_iinc (v := nI (k5 + 1)) (lv' := [(4, .int (nI (k5 + 1))), (2, .long (z5 + (vL G lg lp k5 (ix (lg k5)) (nI c0)))), (0, .ref (a 0)), (1, .int (nI c0))]) hx hb dX6_systemNow_31 hl (k := 1) rfl (by first | rfl | exact nI_add _ _) (by decide) rfl (fun ls hl => ?_)
      refine lv_goto (tgt := 5) hx hb dX6_systemNow_34 (by decide) ?_
      exact ih5 (z5 + (vL G lg lp k5 (ix (lg k5)) (nI c0))) (rfl) (trivial) ls (lv_sub hl [0, 1, 2, 3] rfl)
  · refine lv_iload hx hb dX6_systemNow_5 (lv_at hl 0 rfl) ?_
    refine lv_aload_n hx hb dX6_systemNow_7 rfl (lv_at hl 2 rfl) ?_
    refine va_get (D := (dC, dI)) (ci := 6) (v := .int (nI k)) (C := RX6) (T := TX6) (N := 18) hx hb hts (by decide +kernel) hown hK hP 0 rfl rfl 5 (by decide) (hts (.fieldLink RX6 43 "AchromatDeskModel" "lenses" "I") (by decide +kernel)) (fun _ h9 => h9) rfl dX6_systemNow_8 ?_
    refine rn_ge (tgt := 37) hx hb k k rfl rfl (by omega) (by omega) dX6_systemNow_11 (by decide) (fun h11 => ?_) (fun h11 => ?_)
    · refine lv_lload_n hx hb dX6_systemNow_37 rfl (lv_at hl 1 rfl) ?_
      exact W.lret hx hb hr (fun t ht hW => ⟨_, rfl, by rw [hz5]; rfl, ht⟩) (fun _ h => absurd h List.not_mem_nil) dX6_systemNow_38
    · exfalso; omega

set_option maxHeartbeats 4000000 in
set_option maxRecDepth 100000 in
theorem c_X6_systemPower (l : Launch) (dC : Nat → ClassId) (dI : Nat → Nat → Nat) (cI cJ : ClassId) (a : Nat → Nat) (bf : Nat → Int32) (ln : Nat) (hln : ln ≤ 28) (G : GL) (n : Nat) (hn : n ≤ 20) (lg lp : Nat → Int32) (k : Nat) (hk : k ≤ 8) (rd : Nat → Int32) (np : Nat) (hp : np ≤ 16) (M : MS) (hG : gOK G n) (hL : lOK lg k n) (hR : rOK rd np) (cl : Int32) : Met l yX6_systemPower wsX6_systemPower ({ frames := 3, cells := 0, slots := 0, locals := 72 }) (va_Pc [.ref (a 0), .int cl] (RO (dC, dI) (tyK cI cJ) ([(a 0, .inr (6, [.int (nI ln), .ref (a 1), .int (nI n), .ref (a 2), .ref (a 3), .int (nI k), .ref (a 4), .ref (a 5), .int (nI np), .ref (a 6), .long M.1, .ref (a 7), .int M.2.1, .int M.2.2.1, .int M.2.2.2.1, .int M.2.2.2.2.1, .ref (a 8), .long M.2.2.2.2.2.1])), (a 1, .inl (cI, 28, .inl bf)), (a 2, .inl (cJ, 20, .inr (.inl (gK G)))), (a 3, .inl (cI, 60, .inl (ilv G))), (a 4, .inl (cI, 8, .inl lg)), (a 5, .inl (cI, 8, .inl lp)), (a 6, .inl (cI, 16, .inl rd)), (a 7, .inl (cI, 3, .inl M.2.2.2.2.2.2.1)), (a 8, .inl (cJ, 3, .inr (.inl M.2.2.2.2.2.2.2)))]))) (vp_Sl (fun r => r = sSys G lg lp k cl)) 0 0 (fun _ => False) := by
  refine Met.ofW (cc := cX6_systemPower) (maxL := 2) (ret := (some .long)) (by decide) rfl ?_
  intro p e s m args below meth c s₁ B hml hv
  obtain ⟨rfl, hP, hK, hN⟩ := hv
  have hx := B.exec
  have hb := B.bytes
  have hr := B.returns
  have hts := atoms_spec (ws := wsX6_systemPower) B.pre
  have hown : s.vm.findClass RX6 = some m.cls := findClass_of_methodNamed B.named
  have hlocks := B.notSynchronized
  have hP : va_P (dC, dI) vwCl [(a 0, .inr (6, [.int (nI ln), .ref (a 1), .int (nI n), .ref (a 2), .ref (a 3), .int (nI k), .ref (a 4), .ref (a 5), .int (nI np), .ref (a 6), .long M.1, .ref (a 7), .int M.2.1, .int M.2.2.1, .int M.2.2.2.1, .int M.2.2.2.2.1, .ref (a 8), .long M.2.2.2.2.2.1])), (a 1, .inl (cI, 28, .inl bf)), (a 2, .inl (cJ, 20, .inr (.inl (gK G)))), (a 3, .inl (cI, 60, .inl (ilv G))), (a 4, .inl (cI, 8, .inl lg)), (a 5, .inl (cI, 8, .inl lp)), (a 6, .inl (cI, 16, .inl rd)), (a 7, .inl (cI, 3, .inl M.2.2.2.2.2.2.1)), (a 8, .inl (cJ, 3, .inr (.inl M.2.2.2.2.2.2.2)))] s.heap := hP
  have hl := lv_entry ([.ref (a 0), .int cl]) (n := 2) (Nat.le_of_ble_eq_true rfl)
  rw [lg_entry_eq]
  generalize (lg_sl ([.ref (a 0), .int cl]) ++ List.replicate (2 - (lg_sl ([.ref (a 0), .int cl])).length) Slot.unset).toArray = ls at hl ⊢
  have hl : lv_has ls 2 [(0, .ref (a 0)), (1, .int cl)] := hl
  refine lv_iload_n hx hb dX6_systemPower_0 rfl (lv_at hl 1 rfl) ?_
  refine stSi (As := [.int cl]) (rest := []) (c_X6_isColour l cl) ⟨hx, hb, hml, hown, hts⟩ (va_cwS 1 hts gX6_systemPower_X6_isColour rfl rfl rfl (by decide +kernel) ⟨Nat.le_of_ble_eq_true rfl, Nat.le_of_ble_eq_true rfl⟩) rfl hl.1 rfl (Nat.le_of_ble_eq_true rfl) dX6_systemPower_1 ⟨Nat.zero_le _, Nat.zero_le _⟩ (fun r hr0 => ?_)
  subst hr0
  refine rb_eq (tgt := 15) hx hb dX6_systemPower_4 (by decide) (fun h4 => ?_) (fun h4 => ?_)
  · refine lv_ldc2 (v := (-9000000000000000001)) hx hb hown (hts (.constantLong RX6 53 (-9000000000000000001)) (by decide +kernel)) dX6_systemPower_15 ?_
    exact W.lret hx hb hr (fun t ht hW => ⟨_, rfl, by rw [sSys, if_neg h4], ht⟩) (fun _ h => absurd h List.not_mem_nil) dX6_systemPower_18
  · obtain ⟨j, hj, ej⟩ := hasP_ex (x := cl) (n := 3) (by omega) ⟨h4.1, Int32.lt_of_le_of_lt h4.2 (by decide)⟩
    subst ej
    refine lv_aload_n hx hb dX6_systemPower_7 rfl (lv_at hl 0 rfl) ?_
    refine lv_iload_n hx hb dX6_systemPower_8 rfl (lv_at hl 1 rfl) ?_
    refine roVl (As := [.int (nI j)]) (rest := []) (c_X6_systemNow l dC dI cI cJ a bf ln (by omega) G n (by omega) lg lp k (by omega) rd np (by omega) M hG hL hR j (by omega)) ⟨hx, hb, hml, hown, hts⟩ (cwV 1 hts gX6_systemPower_X6_systemNow rfl rfl rfl (by decide +kernel) ⟨Nat.le_of_ble_eq_true rfl, Nat.le_of_ble_eq_true rfl⟩) (hP.sub [0, 1, 2, 3, 4, 5, 6, 7, 8] rfl) hK hN (ci := 6) rfl rfl rfl hl.1 rfl (Nat.le_of_ble_eq_true rfl) dX6_systemPower_9 ⟨Nat.zero_le _, Nat.zero_le _⟩ (fun r hr0 => ?_)
    subst hr0
    refine lv_goto (tgt := 18) hx hb dX6_systemPower_12 (by decide) ?_
    exact W.lret hx hb hr (fun t ht hW => ⟨_, rfl, by rw [sSys, if_pos h4], ht⟩) (fun _ h => absurd h List.not_mem_nil) dX6_systemPower_18

set_option maxHeartbeats 4000000 in
set_option maxRecDepth 100000 in
theorem c_X6_balanceNow (l : Launch) (dC : Nat → ClassId) (dI : Nat → Nat → Nat) (cI cJ : ClassId) (a : Nat → Nat) (bf : Nat → Int32) (ln : Nat) (hln : ln ≤ 28) (G : GL) (n : Nat) (hn : n ≤ 20) (lg lp : Nat → Int32) (k : Nat) (hk : k ≤ 8) (rd : Nat → Int32) (np : Nat) (hp : np ≤ 16) (M : MS) (hG : gOK G n) (hL : lOK lg k n) (hR : rOK rd np) (g : Nat) (hg : g < n) : Met l yX6_balanceNow wsX6_balanceNow ({ frames := 3, cells := 0, slots := 0, locals := 72 }) (va_Pc [.ref (a 0), .int (nI g)] (RO (dC, dI) (tyK cI cJ) ([(a 0, .inr (6, [.int (nI ln), .ref (a 1), .int (nI n), .ref (a 2), .ref (a 3), .int (nI k), .ref (a 4), .ref (a 5), .int (nI np), .ref (a 6), .long M.1, .ref (a 7), .int M.2.1, .int M.2.2.1, .int M.2.2.2.1, .int M.2.2.2.2.1, .ref (a 8), .long M.2.2.2.2.2.1])), (a 1, .inl (cI, 28, .inl bf)), (a 2, .inl (cJ, 20, .inr (.inl (gK G)))), (a 3, .inl (cI, 60, .inl (ilv G))), (a 4, .inl (cI, 8, .inl lg)), (a 5, .inl (cI, 8, .inl lp)), (a 6, .inl (cI, 16, .inl rd)), (a 7, .inl (cI, 3, .inl M.2.2.2.2.2.2.1)), (a 8, .inl (cJ, 3, .inr (.inl M.2.2.2.2.2.2.2)))]))) (vp_Sl (fun r => r = vBal G lg lp k g)) 0 0 (fun _ => False) := by
  refine Met.ofW (cc := cX6_balanceNow) (maxL := 4) (ret := (some .long)) (by decide) rfl ?_
  intro p e s m args below meth c s₁ B hml hv
  obtain ⟨rfl, hP, hK, hN⟩ := hv
  have hx := B.exec
  have hb := B.bytes
  have hr := B.returns
  have hts := atoms_spec (ws := wsX6_balanceNow) B.pre
  have hown : s.vm.findClass RX6 = some m.cls := findClass_of_methodNamed B.named
  have hlocks := B.notSynchronized
  have hP : va_P (dC, dI) vwCl [(a 0, .inr (6, [.int (nI ln), .ref (a 1), .int (nI n), .ref (a 2), .ref (a 3), .int (nI k), .ref (a 4), .ref (a 5), .int (nI np), .ref (a 6), .long M.1, .ref (a 7), .int M.2.1, .int M.2.2.1, .int M.2.2.2.1, .int M.2.2.2.2.1, .ref (a 8), .long M.2.2.2.2.2.1])), (a 1, .inl (cI, 28, .inl bf)), (a 2, .inl (cJ, 20, .inr (.inl (gK G)))), (a 3, .inl (cI, 60, .inl (ilv G))), (a 4, .inl (cI, 8, .inl lg)), (a 5, .inl (cI, 8, .inl lp)), (a 6, .inl (cI, 16, .inl rd)), (a 7, .inl (cI, 3, .inl M.2.2.2.2.2.2.1)), (a 8, .inl (cJ, 3, .inr (.inl M.2.2.2.2.2.2.2)))] s.heap := hP
  have hl := lv_entry ([.ref (a 0), .int (nI g)]) (n := 4) (Nat.le_of_ble_eq_true rfl)
  rw [lg_entry_eq]
  generalize (lg_sl ([.ref (a 0), .int (nI g)]) ++ List.replicate (4 - (lg_sl ([.ref (a 0), .int (nI g)])).length) Slot.unset).toArray = ls at hl ⊢
  have hl : lv_has ls 4 [(0, .ref (a 0)), (1, .int (nI g))] := hl
  refine lv_aload_n hx hb dX6_balanceNow_0 rfl (lv_at hl 0 rfl) ?_
  refine lv_iconst (v := 0) hx hb dX6_balanceNow_1 (by decide) ?_
  refine roVl (As := [.int 0]) (rest := []) (c_X6_systemNow l dC dI cI cJ a bf ln (by omega) G n (by omega) lg lp k (by omega) rd np (by omega) M hG hL hR 0 (by omega)) ⟨hx, hb, hml, hown, hts⟩ (cwV 1 hts gX6_balanceNow_X6_systemNow rfl rfl rfl (by decide +kernel) ⟨Nat.le_of_ble_eq_true rfl, Nat.le_of_ble_eq_true rfl⟩) (hP.sub [0, 1, 2, 3, 4, 5, 6, 7, 8] rfl) hK hN (ci := 6) rfl rfl rfl hl.1 rfl (Nat.le_of_ble_eq_true rfl) dX6_balanceNow_2 ⟨Nat.zero_le _, Nat.zero_le _⟩ (fun r hr0 => ?_)
  subst hr0
  refine lv_aload_n hx hb dX6_balanceNow_5 rfl (lv_at hl 0 rfl) ?_
  refine lv_iconst (v := 2) hx hb dX6_balanceNow_6 (by decide) ?_
  refine roVl (As := [.int 2]) (rest := [.long (vP G lg lp (nI 0) k)]) (c_X6_systemNow l dC dI cI cJ a bf ln (by omega) G n (by omega) lg lp k (by omega) rd np (by omega) M hG hL hR 2 (by omega)) ⟨hx, hb, hml, hown, hts⟩ (cwV 1 hts gX6_balanceNow_X6_systemNow rfl rfl rfl (by decide +kernel) ⟨Nat.le_of_ble_eq_true rfl, Nat.le_of_ble_eq_true rfl⟩) (hP.sub [0, 1, 2, 3, 4, 5, 6, 7, 8] rfl) hK hN (ci := 6) rfl rfl rfl hl.1 rfl (Nat.le_of_ble_eq_true rfl) dX6_balanceNow_7 ⟨Nat.zero_le _, Nat.zero_le _⟩ (fun r hr0 => ?_)
  subst hr0
  refine lv_lsub hx hb dX6_balanceNow_10 ?_
  refine lv_lstore_n (lv' := [(2, .long ((vP G lg lp (nI 0) k) - (vP G lg lp (nI 2) k))), (0, .ref (a 0)), (1, .int (nI g))]) hx hb dX6_balanceNow_11 rfl hl (by decide) rfl (fun ls hl => ?_)
  refine lv_lload_n hx hb dX6_balanceNow_12 rfl (lv_at hl 0 rfl) ?_
  refine lv_lneg hx hb dX6_balanceNow_13 ?_
  refine lv_aload_n hx hb dX6_balanceNow_14 rfl (lv_at hl 1 rfl) ?_
  refine lv_iload_n hx hb dX6_balanceNow_15 rfl (lv_at hl 2 rfl) ?_
  refine roVl (As := [.int (nI g)]) (rest := [.long (-((vP G lg lp (nI 0) k) - (vP G lg lp (nI 2) k)))]) (c_X6_a l dC dI cI cJ a bf ln (by omega) G n (by omega) lg lp k (by omega) rd np (by omega) M hG hL hR g (by omega)) ⟨hx, hb, hml, hown, hts⟩ (cwV 1 hts gX6_balanceNow_X6_a rfl rfl rfl (by decide +kernel) ⟨Nat.le_of_ble_eq_true rfl, Nat.le_of_ble_eq_true rfl⟩) (hP.sub [0, 1, 2, 3, 4, 5, 6, 7, 8] rfl) hK hN (ci := 6) rfl rfl rfl hl.1 rfl (Nat.le_of_ble_eq_true rfl) dX6_balanceNow_16 ⟨Nat.zero_le _, Nat.zero_le _⟩ (fun r hr0 => ?_)
  subst hr0
  refine lv_lmul hx hb dX6_balanceNow_19 ?_
  refine lv_ldc2 (v := 1000) hx hb hown (hts (.constantLong RX6 115 (1000)) (by decide +kernel)) dX6_balanceNow_20 ?_
  refine lv_aload_n hx hb dX6_balanceNow_23 rfl (lv_at hl 1 rfl) ?_
  refine lv_iload_n hx hb dX6_balanceNow_24 rfl (lv_at hl 2 rfl) ?_
  refine roVl (As := [.int (nI g)]) (rest := [.long 1000, .long ((-((vP G lg lp (nI 0) k) - (vP G lg lp (nI 2) k))) * (vA G g))]) (c_X6_b l dC dI cI cJ a bf ln (by omega) G n (by omega) lg lp k (by omega) rd np (by omega) M hG hL hR g (by omega)) ⟨hx, hb, hml, hown, hts⟩ (cwV 1 hts gX6_balanceNow_X6_b rfl rfl rfl (by decide +kernel) ⟨Nat.le_of_ble_eq_true rfl, Nat.le_of_ble_eq_true rfl⟩) (hP.sub [0, 1, 2, 3, 4, 5, 6, 7, 8] rfl) hK hN (ci := 6) rfl rfl rfl hl.1 rfl (Nat.le_of_ble_eq_true rfl) dX6_balanceNow_25 ⟨Nat.zero_le _, Nat.zero_le _⟩ (fun r hr0 => ?_)
  subst hr0
  have hne := vB1_ne hG hg
  refine lv_lmul hx hb dX6_balanceNow_28 ?_
  refine stSl (As := [.long ((-((vP G lg lp (nI 0) k) - (vP G lg lp (nI 2) k))) * (vA G g)), .long (1000 * (vB G g))]) (rest := []) (c_X6_floor l ((-((vP G lg lp (nI 0) k) - (vP G lg lp (nI 2) k))) * (vA G g)) (1000 * (vB G g)) (by assumption)) ⟨hx, hb, hml, hown, hts⟩ (va_cwS 2 hts gX6_balanceNow_X6_floor rfl rfl rfl (by decide +kernel) ⟨Nat.le_of_ble_eq_true rfl, Nat.le_of_ble_eq_true rfl⟩) rfl hl.1 rfl (Nat.le_of_ble_eq_true rfl) dX6_balanceNow_29 ⟨Nat.zero_le _, Nat.zero_le _⟩ (fun r hr0 => ?_)
  subst hr0
  exact W.lret hx hb hr (fun t ht hW => ⟨_, rfl, rfl, ht⟩) (fun _ h => absurd h List.not_mem_nil) dX6_balanceNow_32

set_option maxHeartbeats 4000000 in
set_option maxRecDepth 100000 in
theorem c_X6_balancePower (l : Launch) (dC : Nat → ClassId) (dI : Nat → Nat → Nat) (cI cJ : ClassId) (a : Nat → Nat) (bf : Nat → Int32) (ln : Nat) (hln : ln ≤ 28) (G : GL) (n : Nat) (hn : n ≤ 20) (lg lp : Nat → Int32) (k : Nat) (hk : k ≤ 8) (rd : Nat → Int32) (np : Nat) (hp : np ≤ 16) (M : MS) (hG : gOK G n) (hL : lOK lg k n) (hR : rOK rd np) (x : Int32) : Met l yX6_balancePower wsX6_balancePower ({ frames := 4, cells := 0, slots := 0, locals := 95 }) (va_Pc [.ref (a 0), .int x] (RO (dC, dI) (tyK cI cJ) ([(a 0, .inr (6, [.int (nI ln), .ref (a 1), .int (nI n), .ref (a 2), .ref (a 3), .int (nI k), .ref (a 4), .ref (a 5), .int (nI np), .ref (a 6), .long M.1, .ref (a 7), .int M.2.1, .int M.2.2.1, .int M.2.2.2.1, .int M.2.2.2.2.1, .ref (a 8), .long M.2.2.2.2.2.1])), (a 1, .inl (cI, 28, .inl bf)), (a 2, .inl (cJ, 20, .inr (.inl (gK G)))), (a 3, .inl (cI, 60, .inl (ilv G))), (a 4, .inl (cI, 8, .inl lg)), (a 5, .inl (cI, 8, .inl lp)), (a 6, .inl (cI, 16, .inl rd)), (a 7, .inl (cI, 3, .inl M.2.2.2.2.2.2.1)), (a 8, .inl (cJ, 3, .inr (.inl M.2.2.2.2.2.2.2)))]))) (vp_Sl (fun r => r = sBal G lg lp k n x)) 0 0 (fun _ => False) := by
  refine Met.ofW (cc := cX6_balancePower) (maxL := 2) (ret := (some .long)) (by decide) rfl ?_
  intro p e s m args below meth c s₁ B hml hv
  obtain ⟨rfl, hP, hK, hN⟩ := hv
  have hx := B.exec
  have hb := B.bytes
  have hr := B.returns
  have hts := atoms_spec (ws := wsX6_balancePower) B.pre
  have hown : s.vm.findClass RX6 = some m.cls := findClass_of_methodNamed B.named
  have hlocks := B.notSynchronized
  have hP : va_P (dC, dI) vwCl [(a 0, .inr (6, [.int (nI ln), .ref (a 1), .int (nI n), .ref (a 2), .ref (a 3), .int (nI k), .ref (a 4), .ref (a 5), .int (nI np), .ref (a 6), .long M.1, .ref (a 7), .int M.2.1, .int M.2.2.1, .int M.2.2.2.1, .int M.2.2.2.2.1, .ref (a 8), .long M.2.2.2.2.2.1])), (a 1, .inl (cI, 28, .inl bf)), (a 2, .inl (cJ, 20, .inr (.inl (gK G)))), (a 3, .inl (cI, 60, .inl (ilv G))), (a 4, .inl (cI, 8, .inl lg)), (a 5, .inl (cI, 8, .inl lp)), (a 6, .inl (cI, 16, .inl rd)), (a 7, .inl (cI, 3, .inl M.2.2.2.2.2.2.1)), (a 8, .inl (cJ, 3, .inr (.inl M.2.2.2.2.2.2.2)))] s.heap := hP
  have hl := lv_entry ([.ref (a 0), .int x]) (n := 2) (Nat.le_of_ble_eq_true rfl)
  rw [lg_entry_eq]
  generalize (lg_sl ([.ref (a 0), .int x]) ++ List.replicate (2 - (lg_sl ([.ref (a 0), .int x])).length) Slot.unset).toArray = ls at hl ⊢
  have hl : lv_has ls 2 [(0, .ref (a 0)), (1, .int x)] := hl
  refine lv_aload_n hx hb dX6_balancePower_0 rfl (lv_at hl 0 rfl) ?_
  refine lv_iload_n hx hb dX6_balancePower_1 rfl (lv_at hl 1 rfl) ?_
  refine roVi (As := [.int x]) (rest := []) (c_X6_isGlass l dC dI cI cJ a bf ln (by omega) G n (by omega) lg lp k (by omega) rd np (by omega) M hG hL hR x) ⟨hx, hb, hml, hown, hts⟩ (cwV 1 hts gX6_balancePower_X6_isGlass rfl rfl rfl (by decide +kernel) ⟨Nat.le_of_ble_eq_true rfl, Nat.le_of_ble_eq_true rfl⟩) (hP.sub [0, 1, 2, 3, 4, 5, 6, 7, 8] rfl) hK hN (ci := 6) rfl rfl rfl hl.1 rfl (Nat.le_of_ble_eq_true rfl) dX6_balancePower_2 ⟨Nat.zero_le _, Nat.zero_le _⟩ (fun r hr0 => ?_)
  subst hr0
  refine rb_eq (tgt := 16) hx hb dX6_balancePower_5 (by decide) (fun h5 => ?_) (fun h5 => ?_)
  · refine lv_ldc2 (v := (-9000000000000000002)) hx hb hown (hts (.constantLong RX6 104 (-9000000000000000002)) (by decide +kernel)) dX6_balancePower_16 ?_
    exact W.lret hx hb hr (fun t ht hW => ⟨_, rfl, by rw [sBal, if_neg h5], ht⟩) (fun _ h => absurd h List.not_mem_nil) dX6_balancePower_19
  · obtain ⟨g, hg, eg⟩ := hasP_ex (by omega) h5
    subst eg
    refine lv_aload_n hx hb dX6_balancePower_8 rfl (lv_at hl 0 rfl) ?_
    refine lv_iload_n hx hb dX6_balancePower_9 rfl (lv_at hl 1 rfl) ?_
    refine roVl (As := [.int (nI g)]) (rest := []) (c_X6_balanceNow l dC dI cI cJ a bf ln (by omega) G n (by omega) lg lp k (by omega) rd np (by omega) M hG hL hR g (by omega)) ⟨hx, hb, hml, hown, hts⟩ (cwV 1 hts gX6_balancePower_X6_balanceNow rfl rfl rfl (by decide +kernel) ⟨Nat.le_of_ble_eq_true rfl, Nat.le_of_ble_eq_true rfl⟩) (hP.sub [0, 1, 2, 3, 4, 5, 6, 7, 8] rfl) hK hN (ci := 6) rfl rfl rfl hl.1 rfl (Nat.le_of_ble_eq_true rfl) dX6_balancePower_10 ⟨Nat.zero_le _, Nat.zero_le _⟩ (fun r hr0 => ?_)
    subst hr0
    refine lv_goto (tgt := 19) hx hb dX6_balancePower_13 (by decide) ?_
    exact W.lret hx hb hr (fun t ht hW => ⟨_, rfl, by rw [sBal, if_pos h5, ix_nI (by omega)], ht⟩) (fun _ h => absurd h List.not_mem_nil) dX6_balancePower_19

set_option maxHeartbeats 4000000 in
set_option maxRecDepth 100000 in
theorem c_X6_miss (l : Launch) (dC : Nat → ClassId) (dI : Nat → Nat → Nat) (cI cJ : ClassId) (a : Nat → Nat) (bf : Nat → Int32) (ln : Nat) (hln : ln ≤ 28) (G : GL) (n : Nat) (hn : n ≤ 20) (lg lp : Nat → Int32) (k : Nat) (hk : k ≤ 8) (rd : Nat → Int32) (np : Nat) (hp : np ≤ 16) (M : MS) (hG : gOK G n) (hL : lOK lg k n) (hR : rOK rd np) (j g : Nat) (hj : j < k) (hg : g < n) : Met l yX6_miss wsX6_miss ({ frames := 3, cells := 0, slots := 0, locals := 72 }) (va_Pc [.ref (a 0), .int (nI j), .int (nI g)] (RO (dC, dI) (tyK cI cJ) ([(a 0, .inr (6, [.int (nI ln), .ref (a 1), .int (nI n), .ref (a 2), .ref (a 3), .int (nI k), .ref (a 4), .ref (a 5), .int (nI np), .ref (a 6), .long M.1, .ref (a 7), .int M.2.1, .int M.2.2.1, .int M.2.2.2.1, .int M.2.2.2.2.1, .ref (a 8), .long M.2.2.2.2.2.1])), (a 1, .inl (cI, 28, .inl bf)), (a 2, .inl (cJ, 20, .inr (.inl (gK G)))), (a 3, .inl (cI, 60, .inl (ilv G))), (a 4, .inl (cI, 8, .inl lg)), (a 5, .inl (cI, 8, .inl lp)), (a 6, .inl (cI, 16, .inl rd)), (a 7, .inl (cI, 3, .inl M.2.2.2.2.2.2.1)), (a 8, .inl (cJ, 3, .inr (.inl M.2.2.2.2.2.2.2)))]))) (vp_Sl (fun r => r = vM G lg lp (vP G lg lp 0 k - M.2.2.2.2.2.2.2 0) (vP G lg lp 1 k - M.2.2.2.2.2.2.2 1) (vP G lg lp 2 k - M.2.2.2.2.2.2.2 2) j g)) 0 0 (fun _ => False) := by
  refine Met.ofW (cc := cX6_miss) (maxL := 6) (ret := (some .long)) (by decide) rfl ?_
  intro p e s m args below meth c s₁ B hml hv
  obtain ⟨rfl, hP, hK, hN⟩ := hv
  have hx := B.exec
  have hb := B.bytes
  have hr := B.returns
  have hts := atoms_spec (ws := wsX6_miss) B.pre
  have hown : s.vm.findClass RX6 = some m.cls := findClass_of_methodNamed B.named
  have hlocks := B.notSynchronized
  have hP : va_P (dC, dI) vwCl [(a 0, .inr (6, [.int (nI ln), .ref (a 1), .int (nI n), .ref (a 2), .ref (a 3), .int (nI k), .ref (a 4), .ref (a 5), .int (nI np), .ref (a 6), .long M.1, .ref (a 7), .int M.2.1, .int M.2.2.1, .int M.2.2.2.1, .int M.2.2.2.2.1, .ref (a 8), .long M.2.2.2.2.2.1])), (a 1, .inl (cI, 28, .inl bf)), (a 2, .inl (cJ, 20, .inr (.inl (gK G)))), (a 3, .inl (cI, 60, .inl (ilv G))), (a 4, .inl (cI, 8, .inl lg)), (a 5, .inl (cI, 8, .inl lp)), (a 6, .inl (cI, 16, .inl rd)), (a 7, .inl (cI, 3, .inl M.2.2.2.2.2.2.1)), (a 8, .inl (cJ, 3, .inr (.inl M.2.2.2.2.2.2.2)))] s.heap := hP
  have hl := lv_entry ([.ref (a 0), .int (nI j), .int (nI g)]) (n := 6) (Nat.le_of_ble_eq_true rfl)
  rw [lg_entry_eq]
  generalize (lg_sl ([.ref (a 0), .int (nI j), .int (nI g)]) ++ List.replicate (6 - (lg_sl ([.ref (a 0), .int (nI j), .int (nI g)])).length) Slot.unset).toArray = ls at hl ⊢
  have hl : lv_has ls 6 [(0, .ref (a 0)), (1, .int (nI j)), (2, .int (nI g))] := hl
  refine lv_lconst (v := 0) hx hb dX6_miss_0 (by decide) ?_
  refine lv_lstore_n (lv' := [(3, .long 0), (0, .ref (a 0)), (1, .int (nI j)), (2, .int (nI g))]) hx hb dX6_miss_1 rfl hl (by decide) rfl (fun ls hl => ?_)
  refine lv_iconst (v := 0) hx hb dX6_miss_2 (by decide) ?_
  refine lv_istore (lv' := [(5, .int 0), (3, .long 0), (0, .ref (a 0)), (1, .int (nI j)), (2, .int (nI g))]) hx hb dX6_miss_3 hl (by decide) rfl (fun ls hl => ?_)
  refine rloopZ (nL := 6) 0 3 (fun l z => z + labs (vP G lg lp (nI l) k - vL G lg lp j (ix (lg j)) (nI l) + vL G lg lp j g (nI l) - M.2.2.2.2.2.2.2 l)) 0 (fun k5 z5 => [(5, .int (nI k5)), (3, .long z5), (0, .ref (a 0)), (1, .int (nI j)), (2, .int (nI g))]) (fun _ _ => True) (by omega) (trivial) (lv_sub hl [0, 1, 2, 3, 4] rfl) (fun k5 z5 hlo5 hk5 hz5 hI5 ls hl ih5 => ?_) (fun z5 hz5 hI5 ls hl => ?_)
  · refine lv_iload hx hb dX6_miss_5 (lv_at hl 0 rfl) ?_
    refine lv_iconst (v := 3) hx hb dX6_miss_7 (by decide) ?_
    refine rn_ge (tgt := 60) hx hb k5 3 rfl rfl (by omega) (by omega) dX6_miss_8 (by decide) (fun h8 => ?_) (fun h8 => ?_)
    · exfalso; omega
    · refine lv_lload_n hx hb dX6_miss_11 rfl (lv_at hl 1 rfl) ?_
      refine lv_aload_n hx hb dX6_miss_12 rfl (lv_at hl 2 rfl) ?_
      refine lv_iload hx hb dX6_miss_13 (lv_at hl 0 rfl) ?_
      refine roVl (As := [.int (nI k5)]) (rest := [.long z5]) (c_X6_systemNow l dC dI cI cJ a bf ln (by omega) G n (by omega) lg lp k (by omega) rd np (by omega) M hG hL hR k5 (by omega)) ⟨hx, hb, hml, hown, hts⟩ (cwV 1 hts gX6_miss_X6_systemNow rfl rfl rfl (by decide +kernel) ⟨Nat.le_of_ble_eq_true rfl, Nat.le_of_ble_eq_true rfl⟩) (hP.sub [0, 1, 2, 3, 4, 5, 6, 7, 8] rfl) hK hN (ci := 6) rfl rfl rfl hl.1 rfl (Nat.le_of_ble_eq_true rfl) dX6_miss_15 ⟨Nat.zero_le _, Nat.zero_le _⟩ (fun r hr0 => ?_)
      subst hr0
      refine lv_aload_n hx hb dX6_miss_18 rfl (lv_at hl 2 rfl) ?_
      refine lv_iload_n hx hb dX6_miss_19 rfl (lv_at hl 3 rfl) ?_
      refine lv_aload_n hx hb dX6_miss_20 rfl (lv_at hl 2 rfl) ?_
      refine va_get (D := (dC, dI)) (ci := 6) (v := .ref (a 4)) (C := RX6) (T := TX6) (N := 18) hx hb hts (by decide +kernel) hown hK hP 0 rfl rfl 6 (by decide) (hts (.fieldLink RX6 20 "AchromatDeskModel" "glassOf" "[I") (by decide +kernel)) (fun _ h9 => h9) rfl dX6_miss_21 ?_
      refine lv_iload_n hx hb dX6_miss_24 rfl (lv_at hl 3 rfl) ?_
      refine ar_iald hx hb hK hP 4 0 rfl rfl j rfl (by omega) (by omega) dX6_miss_25 ?_
      have hq := (hL j (by omega)).2
      refine rw_topi (show (lg j : Int32) = (nI (ix (lg j)) : Int32) from (hL j (by omega)).1) ?_
      refine lv_iload hx hb dX6_miss_26 (lv_at hl 0 rfl) ?_
      refine roVl (As := [.int (nI j), .int (nI (ix (lg j))), .int (nI k5)]) (rest := [.long (vP G lg lp (nI k5) k), .long z5]) (c_X6_lensPower l dC dI cI cJ a bf ln (by omega) G n (by omega) lg lp k (by omega) rd np (by omega) M hG hL hR j (ix (lg j)) k5 (by omega) (by omega) (by omega)) ⟨hx, hb, hml, hown, hts⟩ (cwV 3 hts gX6_miss_X6_lensPower rfl rfl rfl (by decide +kernel) ⟨Nat.le_of_ble_eq_true rfl, Nat.le_of_ble_eq_true rfl⟩) (hP.sub [0, 1, 2, 3, 4, 5, 6, 7, 8] rfl) hK hN (ci := 6) rfl rfl rfl hl.1 rfl (Nat.le_of_ble_eq_true rfl) dX6_miss_28 ⟨Nat.zero_le _, Nat.zero_le _⟩ (fun r hr0 => ?_)
      subst hr0
      refine lv_lsub hx hb dX6_miss_31 ?_
      refine lv_aload_n hx hb dX6_miss_32 rfl (lv_at hl 2 rfl) ?_
      refine lv_iload_n hx hb dX6_miss_33 rfl (lv_at hl 3 rfl) ?_
      refine lv_iload_n hx hb dX6_miss_34 rfl (lv_at hl 4 rfl) ?_
      refine lv_iload hx hb dX6_miss_35 (lv_at hl 0 rfl) ?_
      refine roVl (As := [.int (nI j), .int (nI g), .int (nI k5)]) (rest := [.long ((vP G lg lp (nI k5) k) - (vL G lg lp j (ix (lg j)) (nI k5))), .long z5]) (c_X6_lensPower l dC dI cI cJ a bf ln (by omega) G n (by omega) lg lp k (by omega) rd np (by omega) M hG hL hR j g k5 (by omega) (by omega) (by omega)) ⟨hx, hb, hml, hown, hts⟩ (cwV 3 hts gX6_miss_X6_lensPower rfl rfl rfl (by decide +kernel) ⟨Nat.le_of_ble_eq_true rfl, Nat.le_of_ble_eq_true rfl⟩) (hP.sub [0, 1, 2, 3, 4, 5, 6, 7, 8] rfl) hK hN (ci := 6) rfl rfl rfl hl.1 rfl (Nat.le_of_ble_eq_true rfl) dX6_miss_37 ⟨Nat.zero_le _, Nat.zero_le _⟩ (fun r hr0 => ?_)
      subst hr0
      refine lv_ladd hx hb dX6_miss_40 ?_
      refine lv_aload_n hx hb dX6_miss_41 rfl (lv_at hl 2 rfl) ?_
      refine va_get (D := (dC, dI)) (ci := 6) (v := .ref (a 8)) (C := RX6) (T := TX6) (N := 18) hx hb hts (by decide +kernel) hown hK hP 0 rfl rfl 16 (by decide) (hts (.fieldLink RX6 32 "AchromatDeskModel" "measured" "[J") (by decide +kernel)) (fun _ h9 => h9) rfl dX6_miss_42 ?_
      refine lv_iload hx hb dX6_miss_45 (lv_at hl 0 rfl) ?_
      refine ar_lald hx hb hK hP 8 1 rfl rfl k5 rfl (by omega) (by omega) dX6_miss_47 ?_
      refine lv_lsub hx hb dX6_miss_48 ?_
      refine stSl (As := [.long ((((vP G lg lp (nI k5) k) - (vL G lg lp j (ix (lg j)) (nI k5))) + (vL G lg lp j g (nI k5))) - (M.2.2.2.2.2.2.2 k5))]) (rest := [.long z5]) (c_X6_size l ((((vP G lg lp (nI k5) k) - (vL G lg lp j (ix (lg j)) (nI k5))) + (vL G lg lp j g (nI k5))) - (M.2.2.2.2.2.2.2 k5))) ⟨hx, hb, hml, hown, hts⟩ (va_cwS 1 hts gX6_miss_X6_size rfl rfl rfl (by decide +kernel) ⟨Nat.le_of_ble_eq_true rfl, Nat.le_of_ble_eq_true rfl⟩) rfl hl.1 rfl (Nat.le_of_ble_eq_true rfl) dX6_miss_49 ⟨Nat.zero_le _, Nat.zero_le _⟩ (fun r hr0 => ?_)
      subst hr0
      refine lv_ladd hx hb dX6_miss_52 ?_
      refine lv_lstore_n (lv' := [(3, .long (z5 + (labs ((((vP G lg lp (nI k5) k) - (vL G lg lp j (ix (lg j)) (nI k5))) + (vL G lg lp j g (nI k5))) - (M.2.2.2.2.2.2.2 k5))))), (5, .int (nI k5)), (0, .ref (a 0)), (1, .int (nI j)), (2, .int (nI g))]) hx hb dX6_miss_53 rfl hl (by decide) rfl (fun ls hl => ?_)
      refine lv_iinc (v := nI (k5 + 1)) (lv' := [(5, .int (nI (k5 + 1))), (3, .long (z5 + (labs ((((vP G lg lp (nI k5) k) - (vL G lg lp j (ix (lg j)) (nI k5))) + (vL G lg lp j g (nI k5))) - (M.2.2.2.2.2.2.2 k5))))), (0, .ref (a 0)), (1, .int (nI j)), (2, .int (nI g))]) hx hb dX6_miss_54 hl (k := 1) rfl (by first | rfl | exact nI_add _ _) (by decide) rfl (fun ls hl => ?_)
      refine lv_goto (tgt := 5) hx hb dX6_miss_57 (by decide) ?_
      exact ih5 (z5 + (labs ((((vP G lg lp (nI k5) k) - (vL G lg lp j (ix (lg j)) (nI k5))) + (vL G lg lp j g (nI k5))) - (M.2.2.2.2.2.2.2 k5)))) (rfl) (trivial) ls (lv_sub hl [0, 1, 2, 3, 4] rfl)
  · refine lv_iload hx hb dX6_miss_5 (lv_at hl 0 rfl) ?_
    refine lv_iconst (v := 3) hx hb dX6_miss_7 (by decide) ?_
    refine rn_ge (tgt := 60) hx hb 3 3 rfl rfl (by omega) (by omega) dX6_miss_8 (by decide) (fun h8 => ?_) (fun h8 => ?_)
    · refine lv_lload_n hx hb dX6_miss_60 rfl (lv_at hl 1 rfl) ?_
      exact W.lret hx hb hr (fun t ht hW => ⟨_, rfl, by rw [hz5]; exact miss_eq G lg lp k j g _, ht⟩) (fun _ h => absurd h List.not_mem_nil) dX6_miss_61
    · exfalso; omega

set_option maxHeartbeats 4000000 in
set_option maxRecDepth 100000 in
theorem c_X6_nearestPlate (l : Launch) (dC : Nat → ClassId) (dI : Nat → Nat → Nat) (cI cJ : ClassId) (a : Nat → Nat) (bf : Nat → Int32) (ln : Nat) (hln : ln ≤ 28) (G : GL) (n : Nat) (hn : n ≤ 20) (lg lp : Nat → Int32) (k : Nat) (hk : k ≤ 8) (rd : Nat → Int32) (np : Nat) (hp : np ≤ 16) (M : MS) (hG : gOK G n) (hL : lOK lg k n) (hR : rOK rd np) (r : Int32) : Met l yX6_nearestPlate wsX6_nearestPlate ({ frames := 1, cells := 0, slots := 0, locals := 21 }) (va_Pc [.ref (a 0), .int r] (RO (dC, dI) (tyK cI cJ) ([(a 0, .inr (6, [.int (nI ln), .ref (a 1), .int (nI n), .ref (a 2), .ref (a 3), .int (nI k), .ref (a 4), .ref (a 5), .int (nI np), .ref (a 6), .long M.1, .ref (a 7), .int M.2.1, .int M.2.2.1, .int M.2.2.2.1, .int M.2.2.2.2.1, .ref (a 8), .long M.2.2.2.2.2.1])), (a 1, .inl (cI, 28, .inl bf)), (a 2, .inl (cJ, 20, .inr (.inl (gK G)))), (a 3, .inl (cI, 60, .inl (ilv G))), (a 4, .inl (cI, 8, .inl lg)), (a 5, .inl (cI, 8, .inl lp)), (a 6, .inl (cI, 16, .inl rd)), (a 7, .inl (cI, 3, .inl M.2.2.2.2.2.2.1)), (a 8, .inl (cJ, 3, .inr (.inl M.2.2.2.2.2.2.2)))]))) (vp_Sl (fun r1 => r1 = sNear rd np r)) 0 0 (fun _ => False) := by
  refine Met.ofW (cc := cX6_nearestPlate) (maxL := 9) (ret := (some .long)) (by decide) rfl ?_
  intro p e s m args below meth c s₁ B hml hv
  obtain ⟨rfl, hP, hK, hN⟩ := hv
  have hx := B.exec
  have hb := B.bytes
  have hr := B.returns
  have hts := atoms_spec (ws := wsX6_nearestPlate) B.pre
  have hown : s.vm.findClass RX6 = some m.cls := findClass_of_methodNamed B.named
  have hlocks := B.notSynchronized
  have hP : va_P (dC, dI) vwCl [(a 0, .inr (6, [.int (nI ln), .ref (a 1), .int (nI n), .ref (a 2), .ref (a 3), .int (nI k), .ref (a 4), .ref (a 5), .int (nI np), .ref (a 6), .long M.1, .ref (a 7), .int M.2.1, .int M.2.2.1, .int M.2.2.2.1, .int M.2.2.2.2.1, .ref (a 8), .long M.2.2.2.2.2.1])), (a 1, .inl (cI, 28, .inl bf)), (a 2, .inl (cJ, 20, .inr (.inl (gK G)))), (a 3, .inl (cI, 60, .inl (ilv G))), (a 4, .inl (cI, 8, .inl lg)), (a 5, .inl (cI, 8, .inl lp)), (a 6, .inl (cI, 16, .inl rd)), (a 7, .inl (cI, 3, .inl M.2.2.2.2.2.2.1)), (a 8, .inl (cJ, 3, .inr (.inl M.2.2.2.2.2.2.2)))] s.heap := hP
  have hl := lv_entry ([.ref (a 0), .int r]) (n := 9) (Nat.le_of_ble_eq_true rfl)
  rw [lg_entry_eq]
  generalize (lg_sl ([.ref (a 0), .int r]) ++ List.replicate (9 - (lg_sl ([.ref (a 0), .int r])).length) Slot.unset).toArray = ls at hl ⊢
  have hl : lv_has ls 9 [(0, .ref (a 0)), (1, .int r)] := hl
  refine lv_iconst (v := (-1)) hx hb dX6_nearestPlate_0 (by decide) ?_
  refine lv_istore_n (lv' := [(2, .int (-1)), (0, .ref (a 0)), (1, .int r)]) hx hb dX6_nearestPlate_1 rfl hl (by decide) rfl (fun ls hl => ?_)
  refine lv_iconst (v := 0) hx hb dX6_nearestPlate_2 (by decide) ?_
  refine lv_istore_n (lv' := [(3, .int 0), (2, .int (-1)), (0, .ref (a 0)), (1, .int r)]) hx hb dX6_nearestPlate_3 rfl hl (by decide) rfl (fun ls hl => ?_)
  refine rloopZ (nL := 9) 0 np (nearZ rd r) ((-1 : Int32), (0 : Int64)) (fun k4 z4 => [(3, .int (nI k4)), (2, .int z4.1), (0, .ref (a 0)), (1, .int r)]) (fun k z => z.1 < 0 ∨ ∃ j, j < k ∧ z.1 = nI j ∧ z.2 = labs ((rd j).toInt64 - r.toInt64)) (by omega) (Or.inl (by decide)) (lv_sub hl [0, 1, 2, 3] rfl) (fun k4 z4 hlo4 hk4 hz4 hI4 ls hl ih4 => ?_) (fun z4 hz4 hI4 ls hl => ?_)
  · refine lv_iload_n hx hb dX6_nearestPlate_4 rfl (lv_at hl 0 rfl) ?_
    refine lv_aload_n hx hb dX6_nearestPlate_5 rfl (lv_at hl 2 rfl) ?_
    refine va_get (D := (dC, dI)) (ci := 6) (v := .int (nI np)) (C := RX6) (T := TX6) (N := 18) hx hb hts (by decide +kernel) hown hK hP 0 rfl rfl 8 (by decide) (hts (.fieldLink RX6 243 "AchromatDeskModel" "plates" "I") (by decide +kernel)) (fun _ h9 => h9) rfl dX6_nearestPlate_6 ?_
    refine rn_ge (tgt := 109) hx hb k4 np rfl rfl (by omega) (by omega) dX6_nearestPlate_9 (by decide) (fun h9 => ?_) (fun h9 => ?_)
    · exfalso; omega
    · refine lv_aload_n hx hb dX6_nearestPlate_12 rfl (lv_at hl 2 rfl) ?_
      refine va_get (D := (dC, dI)) (ci := 6) (v := .ref (a 6)) (C := RX6) (T := TX6) (N := 18) hx hb hts (by decide +kernel) hown hK hP 0 rfl rfl 9 (by decide) (hts (.fieldLink RX6 26 "AchromatDeskModel" "radius" "[I") (by decide +kernel)) (fun _ h9 => h9) rfl dX6_nearestPlate_13 ?_
      refine lv_iload_n hx hb dX6_nearestPlate_16 rfl (lv_at hl 0 rfl) ?_
      refine ar_iald hx hb hK hP 6 0 rfl rfl k4 rfl (by omega) (by omega) dX6_nearestPlate_17 ?_
      refine lv_i2l (v := (rd k4).toInt64) hx hb dX6_nearestPlate_18 rfl ?_
      refine lv_iload_n hx hb dX6_nearestPlate_19 rfl (lv_at hl 3 rfl) ?_
      refine lv_i2l (v := r.toInt64) hx hb dX6_nearestPlate_20 rfl ?_
      refine lv_lsub hx hb dX6_nearestPlate_21 ?_
      refine stSl (As := [.long (((rd k4).toInt64) - r.toInt64)]) (rest := []) (c_X6_size l (((rd k4).toInt64) - r.toInt64)) ⟨hx, hb, hml, hown, hts⟩ (va_cwS 1 hts gX6_nearestPlate_X6_size rfl rfl rfl (by decide +kernel) ⟨Nat.le_of_ble_eq_true rfl, Nat.le_of_ble_eq_true rfl⟩) rfl hl.1 rfl (Nat.le_of_ble_eq_true rfl) dX6_nearestPlate_22 ⟨Nat.zero_le _, Nat.zero_le _⟩ (fun r hr0 => ?_)
      subst hr0
      refine lv_lstore (lv' := [(4, .long (labs ((rd k4).toInt64 - r.toInt64))), (3, .int (nI k4)), (2, .int z4.1), (0, .ref (a 0)), (1, .int r)]) hx hb dX6_nearestPlate_25 hl (by decide) rfl (fun ls hl => ?_)
      refine lv_iload_n hx hb dX6_nearestPlate_27 rfl (lv_at hl 2 rfl) ?_
      refine lv_if_ge (tgt := 35) hx hb dX6_nearestPlate_28 (by decide) (fun h28 => ?_) (fun h28 => ?_)
      · obtain ⟨j4, hj4, ej4, ev4⟩ := hI4.resolve_left (Int32.not_lt.mpr h28)
        refine lv_aload_n hx hb dX6_nearestPlate_35 rfl (lv_at hl 3 rfl) ?_
        refine va_get (D := (dC, dI)) (ci := 6) (v := .ref (a 6)) (C := RX6) (T := TX6) (N := 18) hx hb hts (by decide +kernel) hown hK hP 0 rfl rfl 9 (by decide) (hts (.fieldLink RX6 26 "AchromatDeskModel" "radius" "[I") (by decide +kernel)) (fun _ h9 => h9) rfl dX6_nearestPlate_36 ?_
        refine lv_iload_n hx hb dX6_nearestPlate_39 rfl (lv_at hl 2 rfl) ?_
        refine rw_topi (show (z4.1 : Int32) = (nI j4 : Int32) from ej4) ?_
        refine ar_iald hx hb hK hP 6 0 rfl rfl j4 rfl (by omega) (by omega) dX6_nearestPlate_40 ?_
        refine lv_i2l (v := (rd j4).toInt64) hx hb dX6_nearestPlate_41 rfl ?_
        refine lv_iload_n hx hb dX6_nearestPlate_42 rfl (lv_at hl 4 rfl) ?_
        refine lv_i2l (v := r.toInt64) hx hb dX6_nearestPlate_43 rfl ?_
        refine lv_lsub hx hb dX6_nearestPlate_44 ?_
        refine stSl (As := [.long (((rd j4).toInt64) - r.toInt64)]) (rest := []) (c_X6_size l (((rd j4).toInt64) - r.toInt64)) ⟨hx, hb, hml, hown, hts⟩ (va_cwS 1 hts gX6_nearestPlate_X6_size rfl rfl rfl (by decide +kernel) ⟨Nat.le_of_ble_eq_true rfl, Nat.le_of_ble_eq_true rfl⟩) rfl hl.1 rfl (Nat.le_of_ble_eq_true rfl) dX6_nearestPlate_45 ⟨Nat.zero_le _, Nat.zero_le _⟩ (fun r hr0 => ?_)
        subst hr0
        refine rw_topl (show (labs (((rd j4).toInt64) - r.toInt64) : Int64) = (z4.2 : Int64) from ev4.symm) ?_
        refine lv_lstore (lv' := [(6, .long z4.2), (4, .long (labs ((rd k4).toInt64 - r.toInt64))), (3, .int (nI k4)), (2, .int z4.1), (0, .ref (a 0)), (1, .int r)]) hx hb dX6_nearestPlate_48 hl (by decide) rfl (fun ls hl => ?_)
        refine lv_iload_n hx hb dX6_nearestPlate_50 rfl (lv_at hl 3 rfl) ?_
        refine lv_if_lt (tgt := 85) hx hb dX6_nearestPlate_51 (by decide) (fun h51 => ?_) (fun h51 => ?_)
        · exact absurd h51 (Int32.not_lt.mpr h28)
        · refine lv_lload hx hb dX6_nearestPlate_54 (lv_at hl 1 rfl) ?_
          refine lv_lload hx hb dX6_nearestPlate_56 (lv_at hl 0 rfl) ?_
          refine rl_iflt (tgt := 85) hx hb dX6_nearestPlate_58 dX6_nearestPlate_59 (by decide) (fun h58 => ?_) (fun h58 => ?_)
          · refine lv_iconst (v := 1) hx hb dX6_nearestPlate_85 (by decide) ?_
            refine lv_goto (tgt := 90) hx hb dX6_nearestPlate_86 (by decide) ?_
            refine lv_istore (lv' := [(8, .int 1), (6, .long z4.2), (4, .long (labs ((rd k4).toInt64 - r.toInt64))), (3, .int (nI k4)), (2, .int z4.1), (0, .ref (a 0)), (1, .int r)]) hx hb dX6_nearestPlate_90 hl (by decide) rfl (fun ls hl => ?_)
            refine lv_iload hx hb dX6_nearestPlate_92 (lv_at hl 0 rfl) ?_
            refine rz_eq (tgt := 101) hx hb 1 rfl (by omega) dX6_nearestPlate_94 (by decide) (fun h94 => ?_) (fun h94 => ?_)
            · exact absurd h94 (by decide)
            · refine lv_iload_n hx hb dX6_nearestPlate_97 rfl (lv_at hl 3 rfl) ?_
              refine lv_goto (tgt := 102) hx hb dX6_nearestPlate_98 (by decide) ?_
              refine lv_istore_n (lv' := [(2, .int (nI k4)), (8, .int 1), (6, .long z4.2), (4, .long (labs ((rd k4).toInt64 - r.toInt64))), (3, .int (nI k4)), (0, .ref (a 0)), (1, .int r)]) hx hb dX6_nearestPlate_102 rfl hl (by decide) rfl (fun ls hl => ?_)
              refine lv_iinc (v := nI (k4 + 1)) (lv' := [(3, .int (nI (k4 + 1))), (2, .int (nI k4)), (8, .int 1), (6, .long z4.2), (4, .long (labs ((rd k4).toInt64 - r.toInt64))), (0, .ref (a 0)), (1, .int r)]) hx hb dX6_nearestPlate_103 hl (k := 4) rfl (by first | rfl | exact nI_add _ _) (by decide) rfl (fun ls hl => ?_)
              refine lv_goto (tgt := 4) hx hb dX6_nearestPlate_106 (by decide) ?_
              exact ih4 (nI k4, labs ((rd k4).toInt64 - r.toInt64)) ((if_pos (Or.inr (Or.inl h58))).symm) (Or.inr ⟨k4, by omega, rfl, rfl⟩) ls (lv_sub hl [0, 1, 5, 6] rfl)
          · refine lv_lload hx hb dX6_nearestPlate_62 (lv_at hl 1 rfl) ?_
            refine lv_lload hx hb dX6_nearestPlate_64 (lv_at hl 0 rfl) ?_
            refine rl_ifne (tgt := 89) hx hb dX6_nearestPlate_66 dX6_nearestPlate_67 (by decide) (fun h66 => ?_) (fun h66 => ?_)
            · refine lv_iconst (v := 0) hx hb dX6_nearestPlate_89 (by decide) ?_
              refine lv_istore (lv' := [(8, .int 0), (6, .long z4.2), (4, .long (labs ((rd k4).toInt64 - r.toInt64))), (3, .int (nI k4)), (2, .int z4.1), (0, .ref (a 0)), (1, .int r)]) hx hb dX6_nearestPlate_90 hl (by decide) rfl (fun ls hl => ?_)
              refine lv_iload hx hb dX6_nearestPlate_92 (lv_at hl 0 rfl) ?_
              refine rz_eq (tgt := 101) hx hb 0 rfl (by omega) dX6_nearestPlate_94 (by decide) (fun h94 => ?_) (fun h94 => ?_)
              · refine lv_iload_n hx hb dX6_nearestPlate_101 rfl (lv_at hl 4 rfl) ?_
                refine lv_istore_n (lv' := [(2, .int z4.1), (8, .int 0), (6, .long z4.2), (4, .long (labs ((rd k4).toInt64 - r.toInt64))), (3, .int (nI k4)), (0, .ref (a 0)), (1, .int r)]) hx hb dX6_nearestPlate_102 rfl hl (by decide) rfl (fun ls hl => ?_)
                refine lv_iinc (v := nI (k4 + 1)) (lv' := [(3, .int (nI (k4 + 1))), (2, .int z4.1), (8, .int 0), (6, .long z4.2), (4, .long (labs ((rd k4).toInt64 - r.toInt64))), (0, .ref (a 0)), (1, .int r)]) hx hb dX6_nearestPlate_103 hl (k := 4) rfl (by first | rfl | exact nI_add _ _) (by decide) rfl (fun ls hl => ?_)
                refine lv_goto (tgt := 4) hx hb dX6_nearestPlate_106 (by decide) ?_
                exact ih4 z4 ((if_neg (fun w => w.elim (fun w => absurd w (Int32.not_lt.mpr h28)) (fun w => w.elim h58 (fun w => h66 w.1)))).symm) (hI4.imp id (fun ⟨j, h1, h2⟩ => ⟨j, by omega, h2⟩)) ls (lv_sub hl [0, 1, 5, 6] rfl)
              · exact absurd h94 (by decide)
            · refine lv_aload_n hx hb dX6_nearestPlate_70 rfl (lv_at hl 4 rfl) ?_
              refine va_get (D := (dC, dI)) (ci := 6) (v := .ref (a 6)) (C := RX6) (T := TX6) (N := 18) hx hb hts (by decide +kernel) hown hK hP 0 rfl rfl 9 (by decide) (hts (.fieldLink RX6 26 "AchromatDeskModel" "radius" "[I") (by decide +kernel)) (fun _ h9 => h9) rfl dX6_nearestPlate_71 ?_
              refine lv_iload_n hx hb dX6_nearestPlate_74 rfl (lv_at hl 2 rfl) ?_
              refine ar_iald hx hb hK hP 6 0 rfl rfl k4 rfl (by omega) (by omega) dX6_nearestPlate_75 ?_
              refine lv_aload_n hx hb dX6_nearestPlate_76 rfl (lv_at hl 4 rfl) ?_
              refine va_get (D := (dC, dI)) (ci := 6) (v := .ref (a 6)) (C := RX6) (T := TX6) (N := 18) hx hb hts (by decide +kernel) hown hK hP 0 rfl rfl 9 (by decide) (hts (.fieldLink RX6 26 "AchromatDeskModel" "radius" "[I") (by decide +kernel)) (fun _ h9 => h9) rfl dX6_nearestPlate_77 ?_
              refine lv_iload_n hx hb dX6_nearestPlate_80 rfl (lv_at hl 3 rfl) ?_
              refine rw_topi (show (z4.1 : Int32) = (nI j4 : Int32) from ej4) ?_
              refine ar_iald hx hb hK hP 6 0 rfl rfl j4 rfl (by omega) (by omega) dX6_nearestPlate_81 ?_
              refine rw_topi (show (rd j4 : Int32) = (rd (ix z4.1) : Int32) from by rw [ej4, ix_nI (by omega)]) ?_
              refine lv_icmp_ge (tgt := 89) hx hb dX6_nearestPlate_82 (by decide) (fun h82 => ?_) (fun h82 => ?_)
              · refine lv_iconst (v := 0) hx hb dX6_nearestPlate_89 (by decide) ?_
                refine lv_istore (lv' := [(8, .int 0), (6, .long z4.2), (4, .long (labs ((rd k4).toInt64 - r.toInt64))), (3, .int (nI k4)), (2, .int z4.1), (0, .ref (a 0)), (1, .int r)]) hx hb dX6_nearestPlate_90 hl (by decide) rfl (fun ls hl => ?_)
                refine lv_iload hx hb dX6_nearestPlate_92 (lv_at hl 0 rfl) ?_
                refine rz_eq (tgt := 101) hx hb 0 rfl (by omega) dX6_nearestPlate_94 (by decide) (fun h94 => ?_) (fun h94 => ?_)
                · refine lv_iload_n hx hb dX6_nearestPlate_101 rfl (lv_at hl 4 rfl) ?_
                  refine lv_istore_n (lv' := [(2, .int z4.1), (8, .int 0), (6, .long z4.2), (4, .long (labs ((rd k4).toInt64 - r.toInt64))), (3, .int (nI k4)), (0, .ref (a 0)), (1, .int r)]) hx hb dX6_nearestPlate_102 rfl hl (by decide) rfl (fun ls hl => ?_)
                  refine lv_iinc (v := nI (k4 + 1)) (lv' := [(3, .int (nI (k4 + 1))), (2, .int z4.1), (8, .int 0), (6, .long z4.2), (4, .long (labs ((rd k4).toInt64 - r.toInt64))), (0, .ref (a 0)), (1, .int r)]) hx hb dX6_nearestPlate_103 hl (k := 4) rfl (by first | rfl | exact nI_add _ _) (by decide) rfl (fun ls hl => ?_)
                  refine lv_goto (tgt := 4) hx hb dX6_nearestPlate_106 (by decide) ?_
                  exact ih4 z4 ((if_neg (fun w => w.elim (fun w => absurd w (Int32.not_lt.mpr h28)) (fun w => w.elim h58 (fun w => absurd w.2 (Int32.not_lt.mpr h82))))).symm) (hI4.imp id (fun ⟨j, h1, h2⟩ => ⟨j, by omega, h2⟩)) ls (lv_sub hl [0, 1, 5, 6] rfl)
                · exact absurd h94 (by decide)
              · refine lv_iconst (v := 1) hx hb dX6_nearestPlate_85 (by decide) ?_
                refine lv_goto (tgt := 90) hx hb dX6_nearestPlate_86 (by decide) ?_
                refine lv_istore (lv' := [(8, .int 1), (6, .long z4.2), (4, .long (labs ((rd k4).toInt64 - r.toInt64))), (3, .int (nI k4)), (2, .int z4.1), (0, .ref (a 0)), (1, .int r)]) hx hb dX6_nearestPlate_90 hl (by decide) rfl (fun ls hl => ?_)
                refine lv_iload hx hb dX6_nearestPlate_92 (lv_at hl 0 rfl) ?_
                refine rz_eq (tgt := 101) hx hb 1 rfl (by omega) dX6_nearestPlate_94 (by decide) (fun h94 => ?_) (fun h94 => ?_)
                · exact absurd h94 (by decide)
                · refine lv_iload_n hx hb dX6_nearestPlate_97 rfl (lv_at hl 3 rfl) ?_
                  refine lv_goto (tgt := 102) hx hb dX6_nearestPlate_98 (by decide) ?_
                  refine lv_istore_n (lv' := [(2, .int (nI k4)), (8, .int 1), (6, .long z4.2), (4, .long (labs ((rd k4).toInt64 - r.toInt64))), (3, .int (nI k4)), (0, .ref (a 0)), (1, .int r)]) hx hb dX6_nearestPlate_102 rfl hl (by decide) rfl (fun ls hl => ?_)
                  refine lv_iinc (v := nI (k4 + 1)) (lv' := [(3, .int (nI (k4 + 1))), (2, .int (nI k4)), (8, .int 1), (6, .long z4.2), (4, .long (labs ((rd k4).toInt64 - r.toInt64))), (0, .ref (a 0)), (1, .int r)]) hx hb dX6_nearestPlate_103 hl (k := 4) rfl (by first | rfl | exact nI_add _ _) (by decide) rfl (fun ls hl => ?_)
                  refine lv_goto (tgt := 4) hx hb dX6_nearestPlate_106 (by decide) ?_
                  exact ih4 (nI k4, labs ((rd k4).toInt64 - r.toInt64)) ((if_pos (Or.inr (Or.inr ⟨h66, Int32.not_le.mp h82⟩))).symm) (Or.inr ⟨k4, by omega, rfl, rfl⟩) ls (lv_sub hl [0, 1, 5, 6] rfl)
      · refine lv_lconst (v := 0) hx hb dX6_nearestPlate_31 (by decide) ?_
        refine lv_goto (tgt := 48) hx hb dX6_nearestPlate_32 (by decide) ?_
        refine lv_lstore (lv' := [(6, .long 0), (4, .long (labs ((rd k4).toInt64 - r.toInt64))), (3, .int (nI k4)), (2, .int z4.1), (0, .ref (a 0)), (1, .int r)]) hx hb dX6_nearestPlate_48 hl (by decide) rfl (fun ls hl => ?_)
        refine lv_iload_n hx hb dX6_nearestPlate_50 rfl (lv_at hl 3 rfl) ?_
        refine lv_if_lt (tgt := 85) hx hb dX6_nearestPlate_51 (by decide) (fun h51 => ?_) (fun h51 => ?_)
        · refine lv_iconst (v := 1) hx hb dX6_nearestPlate_85 (by decide) ?_
          refine lv_goto (tgt := 90) hx hb dX6_nearestPlate_86 (by decide) ?_
          refine lv_istore (lv' := [(8, .int 1), (6, .long 0), (4, .long (labs ((rd k4).toInt64 - r.toInt64))), (3, .int (nI k4)), (2, .int z4.1), (0, .ref (a 0)), (1, .int r)]) hx hb dX6_nearestPlate_90 hl (by decide) rfl (fun ls hl => ?_)
          refine lv_iload hx hb dX6_nearestPlate_92 (lv_at hl 0 rfl) ?_
          refine rz_eq (tgt := 101) hx hb 1 rfl (by omega) dX6_nearestPlate_94 (by decide) (fun h94 => ?_) (fun h94 => ?_)
          · exact absurd h94 (by decide)
          · refine lv_iload_n hx hb dX6_nearestPlate_97 rfl (lv_at hl 3 rfl) ?_
            refine lv_goto (tgt := 102) hx hb dX6_nearestPlate_98 (by decide) ?_
            refine lv_istore_n (lv' := [(2, .int (nI k4)), (8, .int 1), (6, .long 0), (4, .long (labs ((rd k4).toInt64 - r.toInt64))), (3, .int (nI k4)), (0, .ref (a 0)), (1, .int r)]) hx hb dX6_nearestPlate_102 rfl hl (by decide) rfl (fun ls hl => ?_)
            refine lv_iinc (v := nI (k4 + 1)) (lv' := [(3, .int (nI (k4 + 1))), (2, .int (nI k4)), (8, .int 1), (6, .long 0), (4, .long (labs ((rd k4).toInt64 - r.toInt64))), (0, .ref (a 0)), (1, .int r)]) hx hb dX6_nearestPlate_103 hl (k := 4) rfl (by first | rfl | exact nI_add _ _) (by decide) rfl (fun ls hl => ?_)
            refine lv_goto (tgt := 4) hx hb dX6_nearestPlate_106 (by decide) ?_
            exact ih4 (nI k4, labs ((rd k4).toInt64 - r.toInt64)) ((if_pos (Or.inl (Int32.not_le.mp h28))).symm) (Or.inr ⟨k4, by omega, rfl, rfl⟩) ls (lv_sub hl [0, 1, 5, 6] rfl)
        · exact absurd (Int32.not_le.mp h28) h51
  · refine lv_iload_n hx hb dX6_nearestPlate_4 rfl (lv_at hl 0 rfl) ?_
    refine lv_aload_n hx hb dX6_nearestPlate_5 rfl (lv_at hl 2 rfl) ?_
    refine va_get (D := (dC, dI)) (ci := 6) (v := .int (nI np)) (C := RX6) (T := TX6) (N := 18) hx hb hts (by decide +kernel) hown hK hP 0 rfl rfl 8 (by decide) (hts (.fieldLink RX6 243 "AchromatDeskModel" "plates" "I") (by decide +kernel)) (fun _ h9 => h9) rfl dX6_nearestPlate_6 ?_
    refine rn_ge (tgt := 109) hx hb np np rfl rfl (by omega) (by omega) dX6_nearestPlate_9 (by decide) (fun h9 => ?_) (fun h9 => ?_)
    · refine lv_iload_n hx hb dX6_nearestPlate_109 rfl (lv_at hl 1 rfl) ?_
      refine lv_if_ge (tgt := 119) hx hb dX6_nearestPlate_110 (by decide) (fun h110 => ?_) (fun h110 => ?_)
      · refine lv_iload_n hx hb dX6_nearestPlate_119 rfl (lv_at hl 1 rfl) ?_
        refine lv_i2l (v := z4.1.toInt64) hx hb dX6_nearestPlate_120 rfl ?_
        exact W.lret hx hb hr (fun t ht hW => ⟨_, rfl, by first | rw [sNear, near, ← hz4, if_neg (Int32.not_lt.mpr h110)] | rw [sNear, near, ← hz4, if_pos (Int32.not_le.mp h110)], ht⟩) (fun _ h => absurd h List.not_mem_nil) dX6_nearestPlate_121
      · refine lv_ldc2 (v := (-9000000000000000008)) hx hb hown (hts (.constantLong RX6 134 (-9000000000000000008)) (by decide +kernel)) dX6_nearestPlate_113 ?_
        refine lv_goto (tgt := 121) hx hb dX6_nearestPlate_116 (by decide) ?_
        exact W.lret hx hb hr (fun t ht hW => ⟨_, rfl, by first | rw [sNear, near, ← hz4, if_neg (Int32.not_lt.mpr h110)] | rw [sNear, near, ← hz4, if_pos (Int32.not_le.mp h110)], ht⟩) (fun _ h => absurd h List.not_mem_nil) dX6_nearestPlate_121
    · exfalso; omega

set_option maxHeartbeats 4000000 in
set_option maxRecDepth 100000 in
theorem c_X6_signed (l : Launch) (dC : Nat → ClassId) (dI : Nat → Nat → Nat) (cI cJ : ClassId) (a : Nat → Nat) (bf : Nat → Int32) (ln : Nat) (hln : ln ≤ 28) (G : GL) (n : Nat) (hn : n ≤ 20) (lg lp : Nat → Int32) (k : Nat) (hk : k ≤ 8) (rd : Nat → Int32) (np : Nat) (hp : np ≤ 16) (M : MS) (hG : gOK G n) (hL : lOK lg k n) (hR : rOK rd np) (f g : Nat) (hf : f < np) (hg : g < 2) : Met l yX6_signed wsX6_signed ({ frames := 0, cells := 0, slots := 0, locals := 0 }) (va_Pc [.ref (a 0), .int (nI f), .int (nI g)] (RO (dC, dI) (tyK cI cJ) ([(a 0, .inr (6, [.int (nI ln), .ref (a 1), .int (nI n), .ref (a 2), .ref (a 3), .int (nI k), .ref (a 4), .ref (a 5), .int (nI np), .ref (a 6), .long M.1, .ref (a 7), .int M.2.1, .int M.2.2.1, .int M.2.2.2.1, .int M.2.2.2.2.1, .ref (a 8), .long M.2.2.2.2.2.1])), (a 1, .inl (cI, 28, .inl bf)), (a 2, .inl (cJ, 20, .inr (.inl (gK G)))), (a 3, .inl (cI, 60, .inl (ilv G))), (a 4, .inl (cI, 8, .inl lg)), (a 5, .inl (cI, 8, .inl lp)), (a 6, .inl (cI, 16, .inl rd)), (a 7, .inl (cI, 3, .inl M.2.2.2.2.2.2.1)), (a 8, .inl (cJ, 3, .inr (.inl M.2.2.2.2.2.2.2)))]))) (vp_Sl (fun r => r = sR rd (2 * f + g))) 0 0 (fun _ => False) := by
  refine Met.ofW (cc := cX6_signed) (maxL := 3) (ret := (some .long)) (by decide) rfl ?_
  intro p e s m args below meth c s₁ B hml hv
  obtain ⟨rfl, hP, hK, hN⟩ := hv
  have hx := B.exec
  have hb := B.bytes
  have hr := B.returns
  have hts := atoms_spec (ws := wsX6_signed) B.pre
  have hown : s.vm.findClass RX6 = some m.cls := findClass_of_methodNamed B.named
  have hlocks := B.notSynchronized
  have hP : va_P (dC, dI) vwCl [(a 0, .inr (6, [.int (nI ln), .ref (a 1), .int (nI n), .ref (a 2), .ref (a 3), .int (nI k), .ref (a 4), .ref (a 5), .int (nI np), .ref (a 6), .long M.1, .ref (a 7), .int M.2.1, .int M.2.2.1, .int M.2.2.2.1, .int M.2.2.2.2.1, .ref (a 8), .long M.2.2.2.2.2.1])), (a 1, .inl (cI, 28, .inl bf)), (a 2, .inl (cJ, 20, .inr (.inl (gK G)))), (a 3, .inl (cI, 60, .inl (ilv G))), (a 4, .inl (cI, 8, .inl lg)), (a 5, .inl (cI, 8, .inl lp)), (a 6, .inl (cI, 16, .inl rd)), (a 7, .inl (cI, 3, .inl M.2.2.2.2.2.2.1)), (a 8, .inl (cJ, 3, .inr (.inl M.2.2.2.2.2.2.2)))] s.heap := hP
  have hl := lv_entry ([.ref (a 0), .int (nI f), .int (nI g)]) (n := 3) (Nat.le_of_ble_eq_true rfl)
  rw [lg_entry_eq]
  generalize (lg_sl ([.ref (a 0), .int (nI f), .int (nI g)]) ++ List.replicate (3 - (lg_sl ([.ref (a 0), .int (nI f), .int (nI g)])).length) Slot.unset).toArray = ls at hl ⊢
  have hl : lv_has ls 3 [(0, .ref (a 0)), (1, .int (nI f)), (2, .int (nI g))] := hl
  refine lv_iload_n hx hb dX6_signed_0 rfl (lv_at hl 2 rfl) ?_
  refine lv_iconst (v := 1) hx hb dX6_signed_1 (by decide) ?_
  refine rn_ne (tgt := 16) hx hb g 1 rfl rfl (by omega) (by omega) dX6_signed_2 (by decide) (fun h2 => ?_) (fun h2 => ?_)
  · refine lv_aload_n hx hb dX6_signed_16 rfl (lv_at hl 0 rfl) ?_
    refine va_get (D := (dC, dI)) (ci := 6) (v := .ref (a 6)) (C := RX6) (T := TX6) (N := 18) hx hb hts (by decide +kernel) hown hK hP 0 rfl rfl 9 (by decide) (hts (.fieldLink RX6 26 "AchromatDeskModel" "radius" "[I") (by decide +kernel)) (fun _ h9 => h9) rfl dX6_signed_17 ?_
    refine lv_iload_n hx hb dX6_signed_20 rfl (lv_at hl 1 rfl) ?_
    refine ar_iald hx hb hK hP 6 0 rfl rfl f rfl (by omega) (by omega) dX6_signed_21 ?_
    refine lv_i2l (v := (rd f).toInt64) hx hb dX6_signed_22 rfl ?_
    exact W.lret hx hb hr (fun t ht hW => ⟨_, rfl, by rw [sR, if_pos (by omega), show (2 * f + g) / 2 = f by omega], ht⟩) (fun _ h => absurd h List.not_mem_nil) dX6_signed_23
  · refine lv_aload_n hx hb dX6_signed_5 rfl (lv_at hl 0 rfl) ?_
    refine va_get (D := (dC, dI)) (ci := 6) (v := .ref (a 6)) (C := RX6) (T := TX6) (N := 18) hx hb hts (by decide +kernel) hown hK hP 0 rfl rfl 9 (by decide) (hts (.fieldLink RX6 26 "AchromatDeskModel" "radius" "[I") (by decide +kernel)) (fun _ h9 => h9) rfl dX6_signed_6 ?_
    refine lv_iload_n hx hb dX6_signed_9 rfl (lv_at hl 1 rfl) ?_
    refine ar_iald hx hb hK hP 6 0 rfl rfl f rfl (by omega) (by omega) dX6_signed_10 ?_
    refine lv_ineg hx hb dX6_signed_11 ?_
    refine lv_i2l (v := (-(rd f)).toInt64) hx hb dX6_signed_12 rfl ?_
    refine lv_goto (tgt := 23) hx hb dX6_signed_13 (by decide) ?_
    exact W.lret hx hb hr (fun t ht hW => ⟨_, rfl, by rw [sR, if_neg (by omega), show (2 * f + g) / 2 = f by omega], ht⟩) (fun _ h => absurd h List.not_mem_nil) dX6_signed_23

set_option maxHeartbeats 4000000 in
set_option maxRecDepth 100000 in
theorem c_X6_surfaces (l : Launch) (dC : Nat → ClassId) (dI : Nat → Nat → Nat) (cI cJ : ClassId) (a : Nat → Nat) (bf : Nat → Int32) (ln : Nat) (hln : ln ≤ 28) (G : GL) (n : Nat) (hn : n ≤ 20) (lg lp : Nat → Int32) (k : Nat) (hk : k ≤ 8) (rd : Nat → Int32) (np : Nat) (hp : np ≤ 16) (M : MS) (hG : gOK G n) (hL : lOK lg k n) (hR : rOK rd np) (g : Nat) (hg : g < n) (r s0 : Int64) (hrs : ¬ r * s0 = 0) : Met l yX6_surfaces wsX6_surfaces ({ frames := 1, cells := 0, slots := 0, locals := 25 }) (va_Pc [.ref (a 0), .int (nI g), .long r, .long s0] (RO (dC, dI) (tyK cI cJ) ([(a 0, .inr (6, [.int (nI ln), .ref (a 1), .int (nI n), .ref (a 2), .ref (a 3), .int (nI k), .ref (a 4), .ref (a 5), .int (nI np), .ref (a 6), .long M.1, .ref (a 7), .int M.2.1, .int M.2.2.1, .int M.2.2.2.1, .int M.2.2.2.2.1, .ref (a 8), .long M.2.2.2.2.2.1])), (a 1, .inl (cI, 28, .inl bf)), (a 2, .inl (cJ, 20, .inr (.inl (gK G)))), (a 3, .inl (cI, 60, .inl (ilv G))), (a 4, .inl (cI, 8, .inl lg)), (a 5, .inl (cI, 8, .inl lp)), (a 6, .inl (cI, 16, .inl rd)), (a 7, .inl (cI, 3, .inl M.2.2.2.2.2.2.1)), (a 8, .inl (cJ, 3, .inr (.inl M.2.2.2.2.2.2.2)))]))) (vp_Sl (fun r1 => r1 = fq (vA G g * 10000000 * (s0 - r)) (r * s0))) 0 0 (fun _ => False) := by
  refine Met.ofW (cc := cX6_surfaces) (maxL := 6) (ret := (some .long)) (by decide) rfl ?_
  intro p e s m args below meth c s₁ B hml hv
  obtain ⟨rfl, hP, hK, hN⟩ := hv
  have hx := B.exec
  have hb := B.bytes
  have hr := B.returns
  have hts := atoms_spec (ws := wsX6_surfaces) B.pre
  have hown : s.vm.findClass RX6 = some m.cls := findClass_of_methodNamed B.named
  have hlocks := B.notSynchronized
  have hP : va_P (dC, dI) vwCl [(a 0, .inr (6, [.int (nI ln), .ref (a 1), .int (nI n), .ref (a 2), .ref (a 3), .int (nI k), .ref (a 4), .ref (a 5), .int (nI np), .ref (a 6), .long M.1, .ref (a 7), .int M.2.1, .int M.2.2.1, .int M.2.2.2.1, .int M.2.2.2.2.1, .ref (a 8), .long M.2.2.2.2.2.1])), (a 1, .inl (cI, 28, .inl bf)), (a 2, .inl (cJ, 20, .inr (.inl (gK G)))), (a 3, .inl (cI, 60, .inl (ilv G))), (a 4, .inl (cI, 8, .inl lg)), (a 5, .inl (cI, 8, .inl lp)), (a 6, .inl (cI, 16, .inl rd)), (a 7, .inl (cI, 3, .inl M.2.2.2.2.2.2.1)), (a 8, .inl (cJ, 3, .inr (.inl M.2.2.2.2.2.2.2)))] s.heap := hP
  have hl := lv_entry ([.ref (a 0), .int (nI g), .long r, .long s0]) (n := 6) (Nat.le_of_ble_eq_true rfl)
  rw [lg_entry_eq]
  generalize (lg_sl ([.ref (a 0), .int (nI g), .long r, .long s0]) ++ List.replicate (6 - (lg_sl ([.ref (a 0), .int (nI g), .long r, .long s0])).length) Slot.unset).toArray = ls at hl ⊢
  have hl : lv_has ls 6 [(0, .ref (a 0)), (1, .int (nI g)), (2, .long r), (4, .long s0)] := hl
  refine lv_aload_n hx hb dX6_surfaces_0 rfl (lv_at hl 0 rfl) ?_
  refine lv_iload_n hx hb dX6_surfaces_1 rfl (lv_at hl 1 rfl) ?_
  refine roVl (As := [.int (nI g)]) (rest := []) (c_X6_a l dC dI cI cJ a bf ln (by omega) G n (by omega) lg lp k (by omega) rd np (by omega) M hG hL hR g (by omega)) ⟨hx, hb, hml, hown, hts⟩ (cwV 1 hts gX6_surfaces_X6_a rfl rfl rfl (by decide +kernel) ⟨Nat.le_of_ble_eq_true rfl, Nat.le_of_ble_eq_true rfl⟩) (hP.sub [0, 1, 2, 3, 4, 5, 6, 7, 8] rfl) hK hN (ci := 6) rfl rfl rfl hl.1 rfl (Nat.le_of_ble_eq_true rfl) dX6_surfaces_2 ⟨Nat.zero_le _, Nat.zero_le _⟩ (fun r hr0 => ?_)
  subst hr0
  refine lv_ldc2 (v := 10000000) hx hb hown (hts (.constantLong RX6 213 (10000000)) (by decide +kernel)) dX6_surfaces_5 ?_
  refine lv_lmul hx hb dX6_surfaces_8 ?_
  refine lv_lload hx hb dX6_surfaces_9 (lv_at hl 3 rfl) ?_
  refine lv_lload_n hx hb dX6_surfaces_11 rfl (lv_at hl 2 rfl) ?_
  refine lv_lsub hx hb dX6_surfaces_12 ?_
  refine lv_lmul hx hb dX6_surfaces_13 ?_
  refine lv_lload_n hx hb dX6_surfaces_14 rfl (lv_at hl 2 rfl) ?_
  refine lv_lload hx hb dX6_surfaces_15 (lv_at hl 3 rfl) ?_
  refine lv_lmul hx hb dX6_surfaces_17 ?_
  refine stSl (As := [.long (((vA G g) * 10000000) * (s0 - r)), .long (r * s0)]) (rest := []) (c_X6_floor l (((vA G g) * 10000000) * (s0 - r)) (r * s0) (by assumption)) ⟨hx, hb, hml, hown, hts⟩ (va_cwS 2 hts gX6_surfaces_X6_floor rfl rfl rfl (by decide +kernel) ⟨Nat.le_of_ble_eq_true rfl, Nat.le_of_ble_eq_true rfl⟩) rfl hl.1 rfl (Nat.le_of_ble_eq_true rfl) dX6_surfaces_18 ⟨Nat.zero_le _, Nat.zero_le _⟩ (fun r hr0 => ?_)
  subst hr0
  exact W.lret hx hb hr (fun t ht hW => ⟨_, rfl, rfl, ht⟩) (fun _ h => absurd h List.not_mem_nil) dX6_surfaces_21

set_option maxHeartbeats 4000000 in
set_option maxRecDepth 100000 in
theorem c_X6_surfacesBest (l : Launch) (dC : Nat → ClassId) (dI : Nat → Nat → Nat) (cI cJ : ClassId) (a : Nat → Nat) (bf : Nat → Int32) (ln : Nat) (hln : ln ≤ 28) (G : GL) (n : Nat) (hn : n ≤ 20) (lg lp : Nat → Int32) (k : Nat) (hk : k ≤ 8) (rd : Nat → Int32) (np : Nat) (hp : np ≤ 16) (M : MS) (hG : gOK G n) (hL : lOK lg k n) (hR : rOK rd np) (g : Nat) (hg : g < k) : Met l yX6_surfacesBest wsX6_surfacesBest ({ frames := 2, cells := 0, slots := 0, locals := 50 }) (va_Pc [.ref (a 0), .int (nI g)] (RO (dC, dI) (tyK cI cJ) ([(a 0, .inr (6, [.int (nI ln), .ref (a 1), .int (nI n), .ref (a 2), .ref (a 3), .int (nI k), .ref (a 4), .ref (a 5), .int (nI np), .ref (a 6), .long M.1, .ref (a 7), .int M.2.1, .int M.2.2.1, .int M.2.2.2.1, .int M.2.2.2.2.1, .ref (a 8), .long M.2.2.2.2.2.1])), (a 1, .inl (cI, 28, .inl bf)), (a 2, .inl (cJ, 20, .inr (.inl (gK G)))), (a 3, .inl (cI, 60, .inl (ilv G))), (a 4, .inl (cI, 8, .inl lg)), (a 5, .inl (cI, 8, .inl lp)), (a 6, .inl (cI, 16, .inl rd)), (a 7, .inl (cI, 3, .inl M.2.2.2.2.2.2.1)), (a 8, .inl (cJ, 3, .inr (.inl M.2.2.2.2.2.2.2)))]))) (vp_Sl (fun r => r = vBS G lg lp rd np g)) 0 0 (fun _ => False) := by
  refine Met.ofW (cc := cX6_surfacesBest) (maxL := 15) (ret := (some .long)) (by decide) rfl ?_
  intro p e s m args below meth c s₁ B hml hv
  obtain ⟨rfl, hP, hK, hN⟩ := hv
  have hx := B.exec
  have hb := B.bytes
  have hr := B.returns
  have hts := atoms_spec (ws := wsX6_surfacesBest) B.pre
  have hown : s.vm.findClass RX6 = some m.cls := findClass_of_methodNamed B.named
  have hlocks := B.notSynchronized
  have hP : va_P (dC, dI) vwCl [(a 0, .inr (6, [.int (nI ln), .ref (a 1), .int (nI n), .ref (a 2), .ref (a 3), .int (nI k), .ref (a 4), .ref (a 5), .int (nI np), .ref (a 6), .long M.1, .ref (a 7), .int M.2.1, .int M.2.2.1, .int M.2.2.2.1, .int M.2.2.2.2.1, .ref (a 8), .long M.2.2.2.2.2.1])), (a 1, .inl (cI, 28, .inl bf)), (a 2, .inl (cJ, 20, .inr (.inl (gK G)))), (a 3, .inl (cI, 60, .inl (ilv G))), (a 4, .inl (cI, 8, .inl lg)), (a 5, .inl (cI, 8, .inl lp)), (a 6, .inl (cI, 16, .inl rd)), (a 7, .inl (cI, 3, .inl M.2.2.2.2.2.2.1)), (a 8, .inl (cJ, 3, .inr (.inl M.2.2.2.2.2.2.2)))] s.heap := hP
  have hl := lv_entry ([.ref (a 0), .int (nI g)]) (n := 15) (Nat.le_of_ble_eq_true rfl)
  rw [lg_entry_eq]
  generalize (lg_sl ([.ref (a 0), .int (nI g)]) ++ List.replicate (15 - (lg_sl ([.ref (a 0), .int (nI g)])).length) Slot.unset).toArray = ls at hl ⊢
  have hl : lv_has ls 15 [(0, .ref (a 0)), (1, .int (nI g))] := hl
  refine lv_ldc2 (v := (-9000000000000000008)) hx hb hown (hts (.constantLong RX6 134 (-9000000000000000008)) (by decide +kernel)) dX6_surfacesBest_0 ?_
  refine lv_lstore_n (lv' := [(2, .long (-9000000000000000008)), (0, .ref (a 0)), (1, .int (nI g))]) hx hb dX6_surfacesBest_3 rfl hl (by decide) rfl (fun ls hl => ?_)
  refine lv_lconst (v := 0) hx hb dX6_surfacesBest_4 (by decide) ?_
  refine lv_lstore (lv' := [(4, .long 0), (2, .long (-9000000000000000008)), (0, .ref (a 0)), (1, .int (nI g))]) hx hb dX6_surfacesBest_5 hl (by decide) rfl (fun ls hl => ?_)
  refine lv_iconst (v := 0) hx hb dX6_surfacesBest_7 (by decide) ?_
  refine lv_istore (lv' := [(6, .int 0), (4, .long 0), (2, .long (-9000000000000000008)), (0, .ref (a 0)), (1, .int (nI g))]) hx hb dX6_surfacesBest_8 hl (by decide) rfl (fun ls hl => ?_)
  refine rloopZ (nL := 15) 0 (2 * np) (fun f b => bSrf2 rd np (vA G (ix (lg g))) (lp g).toInt64 f b) (cNO, 0) (fun k10 z10 => [(6, .int (nI k10)), (4, .long z10.2), (2, .long z10.1), (0, .ref (a 0)), (1, .int (nI g))]) (fun _ _ => True) (by omega) (trivial) (lv_sub hl [0, 1, 2, 3, 4] rfl) (fun k10 z10 hlo10 hk10 hz10 hI10 ls hl ih10 => ?_) (fun z10 hz10 hI10 ls hl => ?_)
  · refine lv_iload hx hb dX6_surfacesBest_10 (lv_at hl 0 rfl) ?_
    refine lv_iconst (v := 2) hx hb dX6_surfacesBest_12 (by decide) ?_
    refine lv_aload_n hx hb dX6_surfacesBest_13 rfl (lv_at hl 3 rfl) ?_
    refine va_get (D := (dC, dI)) (ci := 6) (v := .int (nI np)) (C := RX6) (T := TX6) (N := 18) hx hb hts (by decide +kernel) hown hK hP 0 rfl rfl 8 (by decide) (hts (.fieldLink RX6 243 "AchromatDeskModel" "plates" "I") (by decide +kernel)) (fun _ h9 => h9) rfl dX6_surfacesBest_14 ?_
    refine lv_imul hx hb dX6_surfacesBest_17 ?_
    refine rw_topi (pk_mul 2 np) ?_
    refine rn_ge (tgt := 203) hx hb k10 (2 * np) rfl rfl (by omega) (by omega) dX6_surfacesBest_18 (by decide) (fun h18 => ?_) (fun h18 => ?_)
    · exfalso; omega
    · refine lv_iconst (v := 0) hx hb dX6_surfacesBest_21 (by decide) ?_
      refine lv_istore (lv' := [(7, .int 0), (6, .int (nI k10)), (4, .long z10.2), (2, .long z10.1), (0, .ref (a 0)), (1, .int (nI g))]) hx hb dX6_surfacesBest_22 hl (by decide) rfl (fun ls hl => ?_)
      refine rloopZ (nL := 15) 0 (2 * np) (fun g1 b => pick b (lN (1000 * (k10 / 2) + 10 * (g1 / 2) + 2 * (k10 % 2) + g1 % 2)) (if k10 = g1 then -1 else labs (pB rd (vA G (ix (lg g))) k10 g1 - (lp g).toInt64))) z10 (fun k24 z24 => [(7, .int (nI k24)), (6, .int (nI k10)), (4, .long z24.2), (2, .long z24.1), (0, .ref (a 0)), (1, .int (nI g))]) (fun _ _ => True) (by omega) (trivial) (lv_sub hl [0, 1, 2, 3, 4, 5] rfl) (fun k24 z24 hlo24 hk24 hz24 hI24 ls hl ih24 => ?_) (fun z24 hz24 hI24 ls hl => ?_)
      · refine lv_iload hx hb dX6_surfacesBest_24 (lv_at hl 0 rfl) ?_
        refine lv_iconst (v := 2) hx hb dX6_surfacesBest_26 (by decide) ?_
        refine lv_aload_n hx hb dX6_surfacesBest_27 rfl (lv_at hl 4 rfl) ?_
        refine va_get (D := (dC, dI)) (ci := 6) (v := .int (nI np)) (C := RX6) (T := TX6) (N := 18) hx hb hts (by decide +kernel) hown hK hP 0 rfl rfl 8 (by decide) (hts (.fieldLink RX6 243 "AchromatDeskModel" "plates" "I") (by decide +kernel)) (fun _ h9 => h9) rfl dX6_surfacesBest_28 ?_
        refine lv_imul hx hb dX6_surfacesBest_31 ?_
        refine rw_topi (pk_mul 2 np) ?_
        refine rn_ge (tgt := 197) hx hb k24 (2 * np) rfl rfl (by omega) (by omega) dX6_surfacesBest_32 (by decide) (fun h32 => ?_) (fun h32 => ?_)
        · exfalso; omega
        · refine lv_aload_n hx hb dX6_surfacesBest_35 rfl (lv_at hl 4 rfl) ?_
          refine lv_iload hx hb dX6_surfacesBest_36 (lv_at hl 1 rfl) ?_
          refine lv_iconst (v := 2) hx hb dX6_surfacesBest_38 (by decide) ?_
          refine lv_idiv hx hb dX6_surfacesBest_39 (by decide) ?_
          refine rw_topi (pk_div (a := k10) (d := 2) (by omega) (by omega) (by omega)) ?_
          refine lv_iload hx hb dX6_surfacesBest_40 (lv_at hl 1 rfl) ?_
          refine lv_iconst (v := 2) hx hb dX6_surfacesBest_42 (by decide) ?_
          refine lv_irem hx hb dX6_surfacesBest_43 (by decide) ?_
          refine rw_topi (pk_rem (a := k10) (d := 2) (by omega) (by omega) (by omega)) ?_
          refine roVl (As := [.int (nI (k10 / 2)), .int (nI (k10 % 2))]) (rest := []) (c_X6_signed l dC dI cI cJ a bf ln (by omega) G n (by omega) lg lp k (by omega) rd np (by omega) M hG hL hR (k10 / 2) (k10 % 2) (by omega) (by omega)) ⟨hx, hb, hml, hown, hts⟩ (cwV 2 hts gX6_surfacesBest_X6_signed rfl rfl rfl (by decide +kernel) ⟨Nat.le_of_ble_eq_true rfl, Nat.le_of_ble_eq_true rfl⟩) (hP.sub [0, 1, 2, 3, 4, 5, 6, 7, 8] rfl) hK hN (ci := 6) rfl rfl rfl hl.1 rfl (Nat.le_of_ble_eq_true rfl) dX6_surfacesBest_44 ⟨Nat.zero_le _, Nat.zero_le _⟩ (fun r hr0 => ?_)
          subst hr0
          refine rw_topl (show (sR rd (2 * (k10 / 2) + (k10 % 2)) : Int64) = (sR rd k10 : Int64) from by rw [show 2 * (k10 / 2) + k10 % 2 = k10 by omega]) ?_
          refine lv_lstore (lv' := [(8, .long (sR rd k10)), (7, .int (nI k24)), (6, .int (nI k10)), (4, .long z24.2), (2, .long z24.1), (0, .ref (a 0)), (1, .int (nI g))]) hx hb dX6_surfacesBest_47 hl (by decide) rfl (fun ls hl => ?_)
          refine lv_aload_n hx hb dX6_surfacesBest_49 rfl (lv_at hl 5 rfl) ?_
          refine lv_iload hx hb dX6_surfacesBest_50 (lv_at hl 1 rfl) ?_
          refine lv_iconst (v := 2) hx hb dX6_surfacesBest_52 (by decide) ?_
          refine lv_idiv hx hb dX6_surfacesBest_53 (by decide) ?_
          refine rw_topi (pk_div (a := k24) (d := 2) (by omega) (by omega) (by omega)) ?_
          refine lv_iload hx hb dX6_surfacesBest_54 (lv_at hl 1 rfl) ?_
          refine lv_iconst (v := 2) hx hb dX6_surfacesBest_56 (by decide) ?_
          refine lv_irem hx hb dX6_surfacesBest_57 (by decide) ?_
          refine rw_topi (pk_rem (a := k24) (d := 2) (by omega) (by omega) (by omega)) ?_
          refine roVl (As := [.int (nI (k24 / 2)), .int (nI (k24 % 2))]) (rest := []) (c_X6_signed l dC dI cI cJ a bf ln (by omega) G n (by omega) lg lp k (by omega) rd np (by omega) M hG hL hR (k24 / 2) (k24 % 2) (by omega) (by omega)) ⟨hx, hb, hml, hown, hts⟩ (cwV 2 hts gX6_surfacesBest_X6_signed rfl rfl rfl (by decide +kernel) ⟨Nat.le_of_ble_eq_true rfl, Nat.le_of_ble_eq_true rfl⟩) (hP.sub [0, 1, 2, 3, 4, 5, 6, 7, 8] rfl) hK hN (ci := 6) rfl rfl rfl hl.1 rfl (Nat.le_of_ble_eq_true rfl) dX6_surfacesBest_58 ⟨Nat.zero_le _, Nat.zero_le _⟩ (fun r hr0 => ?_)
          subst hr0
          refine rw_topl (show (sR rd (2 * (k24 / 2) + (k24 % 2)) : Int64) = (sR rd k24 : Int64) from by rw [show 2 * (k24 / 2) + k24 % 2 = k24 by omega]) ?_
          refine lv_lstore (lv' := [(10, .long (sR rd k24)), (8, .long (sR rd k10)), (7, .int (nI k24)), (6, .int (nI k10)), (4, .long z24.2), (2, .long z24.1), (0, .ref (a 0)), (1, .int (nI g))]) hx hb dX6_surfacesBest_61 hl (by decide) rfl (fun ls hl => ?_)
          refine lv_lload hx hb dX6_surfacesBest_63 (lv_at hl 1 rfl) ?_
          refine lv_lload hx hb dX6_surfacesBest_65 (lv_at hl 0 rfl) ?_
          refine rl_ifne (tgt := 77) hx hb dX6_surfacesBest_67 dX6_surfacesBest_68 (by decide) (fun h67 => ?_) (fun h67 => ?_)
          · have hfe : ¬ k10 = k24 := fun w => h67 ((sR_inj hR (by omega) (by omega)).mpr w)
            have hrs := sR_ne hR (show k10 < 2 * np by omega) (show k24 < 2 * np by omega)
            refine lv_aload_n hx hb dX6_surfacesBest_77 rfl (lv_at hl 6 rfl) ?_
            refine lv_aload_n hx hb dX6_surfacesBest_78 rfl (lv_at hl 6 rfl) ?_
            refine va_get (D := (dC, dI)) (ci := 6) (v := .ref (a 4)) (C := RX6) (T := TX6) (N := 18) hx hb hts (by decide +kernel) hown hK hP 0 rfl rfl 6 (by decide) (hts (.fieldLink RX6 20 "AchromatDeskModel" "glassOf" "[I") (by decide +kernel)) (fun _ h9 => h9) rfl dX6_surfacesBest_79 ?_
            refine lv_iload_n hx hb dX6_surfacesBest_82 rfl (lv_at hl 7 rfl) ?_
            refine ar_iald hx hb hK hP 4 0 rfl rfl g rfl (by omega) (by omega) dX6_surfacesBest_83 ?_
            have hq := (hL g (by omega)).2
            refine rw_topi (show (lg g : Int32) = (nI (ix (lg g)) : Int32) from (hL g (by omega)).1) ?_
            refine lv_lload hx hb dX6_surfacesBest_84 (lv_at hl 1 rfl) ?_
            refine lv_lload hx hb dX6_surfacesBest_86 (lv_at hl 0 rfl) ?_
            refine roVl (As := [.int (nI (ix (lg g))), .long (sR rd k10), .long (sR rd k24)]) (rest := []) (c_X6_surfaces l dC dI cI cJ a bf ln (by omega) G n (by omega) lg lp k (by omega) rd np (by omega) M hG hL hR (ix (lg g)) (by omega) (sR rd k10) (sR rd k24) (by assumption)) ⟨hx, hb, hml, hown, hts⟩ (cwV 3 hts gX6_surfacesBest_X6_surfaces rfl rfl rfl (by decide +kernel) ⟨Nat.le_of_ble_eq_true rfl, Nat.le_of_ble_eq_true rfl⟩) (hP.sub [0, 1, 2, 3, 4, 5, 6, 7, 8] rfl) hK hN (ci := 6) rfl rfl rfl hl.1 rfl (Nat.le_of_ble_eq_true rfl) dX6_surfacesBest_88 ⟨Nat.zero_le _, Nat.zero_le _⟩ (fun r hr0 => ?_)
            subst hr0
            refine lv_aload_n hx hb dX6_surfacesBest_91 rfl (lv_at hl 6 rfl) ?_
            refine va_get (D := (dC, dI)) (ci := 6) (v := .ref (a 5)) (C := RX6) (T := TX6) (N := 18) hx hb hts (by decide +kernel) hown hK hP 0 rfl rfl 7 (by decide) (hts (.fieldLink RX6 23 "AchromatDeskModel" "powerOf" "[I") (by decide +kernel)) (fun _ h9 => h9) rfl dX6_surfacesBest_92 ?_
            refine lv_iload_n hx hb dX6_surfacesBest_95 rfl (lv_at hl 7 rfl) ?_
            refine ar_iald hx hb hK hP 5 0 rfl rfl g rfl (by omega) (by omega) dX6_surfacesBest_96 ?_
            refine lv_i2l (v := (lp g).toInt64) hx hb dX6_surfacesBest_97 rfl ?_
            refine lv_lsub hx hb dX6_surfacesBest_98 ?_
            refine stSl (As := [.long ((fq (vA G (ix (lg g)) * 10000000 * ((sR rd k24) - (sR rd k10))) ((sR rd k10) * (sR rd k24))) - ((lp g).toInt64))]) (rest := []) (c_X6_size l ((fq (vA G (ix (lg g)) * 10000000 * ((sR rd k24) - (sR rd k10))) ((sR rd k10) * (sR rd k24))) - ((lp g).toInt64))) ⟨hx, hb, hml, hown, hts⟩ (va_cwS 1 hts gX6_surfacesBest_X6_size rfl rfl rfl (by decide +kernel) ⟨Nat.le_of_ble_eq_true rfl, Nat.le_of_ble_eq_true rfl⟩) rfl hl.1 rfl (Nat.le_of_ble_eq_true rfl) dX6_surfacesBest_99 ⟨Nat.zero_le _, Nat.zero_le _⟩ (fun r hr0 => ?_)
            subst hr0
            refine lv_lstore (lv' := [(12, .long (labs (pB rd (vA G (ix (lg g))) k10 k24 - (lp g).toInt64))), (10, .long (sR rd k24)), (8, .long (sR rd k10)), (7, .int (nI k24)), (6, .int (nI k10)), (4, .long z24.2), (2, .long z24.1), (0, .ref (a 0)), (1, .int (nI g))]) hx hb dX6_surfacesBest_102 hl (by decide) rfl (fun ls hl => ?_)
            refine lv_lload hx hb dX6_surfacesBest_104 (lv_at hl 0 rfl) ?_
            refine lv_lconst (v := 0) hx hb dX6_surfacesBest_106 (by decide) ?_
            refine rl_iflt (tgt := 131) hx hb dX6_surfacesBest_107 dX6_surfacesBest_108 (by decide) (fun h107 => ?_) (fun h107 => ?_)
            · refine lv_iconst (v := 0) hx hb dX6_surfacesBest_131 (by decide) ?_
              refine lv_istore (lv' := [(14, .int 0), (12, .long (labs (pB rd (vA G (ix (lg g))) k10 k24 - (lp g).toInt64))), (10, .long (sR rd k24)), (8, .long (sR rd k10)), (7, .int (nI k24)), (6, .int (nI k10)), (4, .long z24.2), (2, .long z24.1), (0, .ref (a 0)), (1, .int (nI g))]) hx hb dX6_surfacesBest_132 hl (by decide) rfl (fun ls hl => ?_)
              refine lv_iload hx hb dX6_surfacesBest_134 (lv_at hl 0 rfl) ?_
              refine rz_eq (tgt := 175) hx hb 0 rfl (by omega) dX6_surfacesBest_136 (by decide) (fun h136 => ?_) (fun h136 => ?_)
              · refine lv_lload_n hx hb dX6_surfacesBest_175 rfl (lv_at hl 7 rfl) ?_
                refine lv_lstore_n (lv' := [(2, .long z24.1), (14, .int 0), (12, .long (labs (pB rd (vA G (ix (lg g))) k10 k24 - (lp g).toInt64))), (10, .long (sR rd k24)), (8, .long (sR rd k10)), (7, .int (nI k24)), (6, .int (nI k10)), (4, .long z24.2), (0, .ref (a 0)), (1, .int (nI g))]) hx hb dX6_surfacesBest_176 rfl hl (by decide) rfl (fun ls hl => ?_)
                refine lv_iload hx hb dX6_surfacesBest_177 (lv_at hl 1 rfl) ?_
                refine rz_eq (tgt := 187) hx hb 0 rfl (by omega) dX6_surfacesBest_179 (by decide) (fun h179 => ?_) (fun h179 => ?_)
                · refine lv_lload hx hb dX6_surfacesBest_187 (lv_at hl 7 rfl) ?_
                  refine lv_lstore (lv' := [(4, .long z24.2), (2, .long z24.1), (14, .int 0), (12, .long (labs (pB rd (vA G (ix (lg g))) k10 k24 - (lp g).toInt64))), (10, .long (sR rd k24)), (8, .long (sR rd k10)), (7, .int (nI k24)), (6, .int (nI k10)), (0, .ref (a 0)), (1, .int (nI g))]) hx hb dX6_surfacesBest_189 hl (by decide) rfl (fun ls hl => ?_)
                  refine lv_iinc (v := nI (k24 + 1)) (lv' := [(7, .int (nI (k24 + 1))), (4, .long z24.2), (2, .long z24.1), (14, .int 0), (12, .long (labs (pB rd (vA G (ix (lg g))) k10 k24 - (lp g).toInt64))), (10, .long (sR rd k24)), (8, .long (sR rd k10)), (6, .int (nI k10)), (0, .ref (a 0)), (1, .int (nI g))]) hx hb dX6_surfacesBest_191 hl (k := 6) rfl (by first | rfl | exact nI_add _ _) (by decide) rfl (fun ls hl => ?_)
                  refine lv_goto (tgt := 24) hx hb dX6_surfacesBest_194 (by decide) ?_
                  exact ih24 z24 ((by rw [if_neg hfe]; exact (if_neg (fun w => absurd w.1 (Int64.not_le.mpr h107))).symm)) (trivial) ls (lv_sub hl [0, 7, 1, 2, 8, 9] rfl)
                · exact absurd h179 (by decide)
              · exact absurd h136 (by decide)
            · refine lv_lload_n hx hb dX6_surfacesBest_111 rfl (lv_at hl 6 rfl) ?_
              refine lv_ldc2 (v := (-9000000000000000008)) hx hb hown (hts (.constantLong RX6 134 (-9000000000000000008)) (by decide +kernel)) dX6_surfacesBest_112 ?_
              refine rl_ifeq (tgt := 127) hx hb dX6_surfacesBest_115 dX6_surfacesBest_116 (by decide) (fun h115 => ?_) (fun h115 => ?_)
              · refine lv_iconst (v := 1) hx hb dX6_surfacesBest_127 (by decide) ?_
                refine lv_goto (tgt := 132) hx hb dX6_surfacesBest_128 (by decide) ?_
                refine lv_istore (lv' := [(14, .int 1), (12, .long (labs (pB rd (vA G (ix (lg g))) k10 k24 - (lp g).toInt64))), (10, .long (sR rd k24)), (8, .long (sR rd k10)), (7, .int (nI k24)), (6, .int (nI k10)), (4, .long z24.2), (2, .long z24.1), (0, .ref (a 0)), (1, .int (nI g))]) hx hb dX6_surfacesBest_132 hl (by decide) rfl (fun ls hl => ?_)
                refine lv_iload hx hb dX6_surfacesBest_134 (lv_at hl 0 rfl) ?_
                refine rz_eq (tgt := 175) hx hb 1 rfl (by omega) dX6_surfacesBest_136 (by decide) (fun h136 => ?_) (fun h136 => ?_)
                · exact absurd h136 (by decide)
                · refine lv_ldc2 (v := 1000) hx hb hown (hts (.constantLong RX6 115 (1000)) (by decide +kernel)) dX6_surfacesBest_139 ?_
                  refine lv_iload hx hb dX6_surfacesBest_142 (lv_at hl 5 rfl) ?_
                  refine lv_iconst (v := 2) hx hb dX6_surfacesBest_144 (by decide) ?_
                  refine lv_idiv hx hb dX6_surfacesBest_145 (by decide) ?_
                  refine rw_topi (pk_div (a := k10) (d := 2) (by omega) (by omega) (by omega)) ?_
                  refine lv_i2l (v := lN (k10 / 2)) hx hb dX6_surfacesBest_146 (nI_l (by omega)) ?_
                  refine lv_lmul hx hb dX6_surfacesBest_147 ?_
                  refine rw_topl (lN_mul 1000 (k10 / 2)) ?_
                  refine lv_ldc2 (v := 10) hx hb hown (hts (.constantLong RX6 253 (10)) (by decide +kernel)) dX6_surfacesBest_148 ?_
                  refine lv_iload hx hb dX6_surfacesBest_151 (lv_at hl 4 rfl) ?_
                  refine lv_iconst (v := 2) hx hb dX6_surfacesBest_153 (by decide) ?_
                  refine lv_idiv hx hb dX6_surfacesBest_154 (by decide) ?_
                  refine rw_topi (pk_div (a := k24) (d := 2) (by omega) (by omega) (by omega)) ?_
                  refine lv_i2l (v := lN (k24 / 2)) hx hb dX6_surfacesBest_155 (nI_l (by omega)) ?_
                  refine lv_lmul hx hb dX6_surfacesBest_156 ?_
                  refine rw_topl (lN_mul 10 (k24 / 2)) ?_
                  refine lv_ladd hx hb dX6_surfacesBest_157 ?_
                  refine rw_topl (lN_add (1000 * (k10 / 2)) (10 * (k24 / 2))) ?_
                  refine lv_iconst (v := 2) hx hb dX6_surfacesBest_158 (by decide) ?_
                  refine lv_iload hx hb dX6_surfacesBest_159 (lv_at hl 5 rfl) ?_
                  refine lv_iconst (v := 2) hx hb dX6_surfacesBest_161 (by decide) ?_
                  refine lv_irem hx hb dX6_surfacesBest_162 (by decide) ?_
                  refine rw_topi (pk_rem (a := k10) (d := 2) (by omega) (by omega) (by omega)) ?_
                  refine lv_imul hx hb dX6_surfacesBest_163 ?_
                  refine rw_topi (pk_mul 2 (k10 % 2)) ?_
                  refine lv_i2l (v := lN (2 * (k10 % 2))) hx hb dX6_surfacesBest_164 (nI_l (by omega)) ?_
                  refine lv_ladd hx hb dX6_surfacesBest_165 ?_
                  refine rw_topl (lN_add ((1000 * (k10 / 2)) + (10 * (k24 / 2))) (2 * (k10 % 2))) ?_
                  refine lv_iload hx hb dX6_surfacesBest_166 (lv_at hl 4 rfl) ?_
                  refine lv_iconst (v := 2) hx hb dX6_surfacesBest_168 (by decide) ?_
                  refine lv_irem hx hb dX6_surfacesBest_169 (by decide) ?_
                  refine rw_topi (pk_rem (a := k24) (d := 2) (by omega) (by omega) (by omega)) ?_
                  refine lv_i2l (v := lN (k24 % 2)) hx hb dX6_surfacesBest_170 (nI_l (by omega)) ?_
                  refine lv_ladd hx hb dX6_surfacesBest_171 ?_
                  refine rw_topl (lN_add (((1000 * (k10 / 2)) + (10 * (k24 / 2))) + (2 * (k10 % 2))) (k24 % 2)) ?_
                  refine lv_goto (tgt := 176) hx hb dX6_surfacesBest_172 (by decide) ?_
                  refine lv_lstore_n (lv' := [(2, .long (lN ((((1000 * (k10 / 2)) + (10 * (k24 / 2))) + (2 * (k10 % 2))) + (k24 % 2)))), (14, .int 1), (12, .long (labs (pB rd (vA G (ix (lg g))) k10 k24 - (lp g).toInt64))), (10, .long (sR rd k24)), (8, .long (sR rd k10)), (7, .int (nI k24)), (6, .int (nI k10)), (4, .long z24.2), (0, .ref (a 0)), (1, .int (nI g))]) hx hb dX6_surfacesBest_176 rfl hl (by decide) rfl (fun ls hl => ?_)
                  refine lv_iload hx hb dX6_surfacesBest_177 (lv_at hl 1 rfl) ?_
                  refine rz_eq (tgt := 187) hx hb 1 rfl (by omega) dX6_surfacesBest_179 (by decide) (fun h179 => ?_) (fun h179 => ?_)
                  · exact absurd h179 (by decide)
                  · refine lv_lload hx hb dX6_surfacesBest_182 (lv_at hl 2 rfl) ?_
                    refine lv_goto (tgt := 189) hx hb dX6_surfacesBest_184 (by decide) ?_
                    refine lv_lstore (lv' := [(4, .long (labs (pB rd (vA G (ix (lg g))) k10 k24 - (lp g).toInt64))), (2, .long (lN ((((1000 * (k10 / 2)) + (10 * (k24 / 2))) + (2 * (k10 % 2))) + (k24 % 2)))), (14, .int 1), (12, .long (labs (pB rd (vA G (ix (lg g))) k10 k24 - (lp g).toInt64))), (10, .long (sR rd k24)), (8, .long (sR rd k10)), (7, .int (nI k24)), (6, .int (nI k10)), (0, .ref (a 0)), (1, .int (nI g))]) hx hb dX6_surfacesBest_189 hl (by decide) rfl (fun ls hl => ?_)
                    refine lv_iinc (v := nI (k24 + 1)) (lv' := [(7, .int (nI (k24 + 1))), (4, .long (labs (pB rd (vA G (ix (lg g))) k10 k24 - (lp g).toInt64))), (2, .long (lN ((((1000 * (k10 / 2)) + (10 * (k24 / 2))) + (2 * (k10 % 2))) + (k24 % 2)))), (14, .int 1), (12, .long (labs (pB rd (vA G (ix (lg g))) k10 k24 - (lp g).toInt64))), (10, .long (sR rd k24)), (8, .long (sR rd k10)), (6, .int (nI k10)), (0, .ref (a 0)), (1, .int (nI g))]) hx hb dX6_surfacesBest_191 hl (k := 6) rfl (by first | rfl | exact nI_add _ _) (by decide) rfl (fun ls hl => ?_)
                    refine lv_goto (tgt := 24) hx hb dX6_surfacesBest_194 (by decide) ?_
                    exact ih24 (lN ((((1000 * (k10 / 2)) + (10 * (k24 / 2))) + (2 * (k10 % 2))) + (k24 % 2)), labs (pB rd (vA G (ix (lg g))) k10 k24 - (lp g).toInt64)) ((by rw [if_neg hfe]; exact (if_pos ⟨Int64.not_lt.mp h107, Or.inl h115⟩).symm)) (trivial) ls (lv_sub hl [0, 7, 1, 2, 8, 9] rfl)
              · refine lv_lload hx hb dX6_surfacesBest_119 (lv_at hl 0 rfl) ?_
                refine lv_lload hx hb dX6_surfacesBest_121 (lv_at hl 5 rfl) ?_
                refine rl_ifge (tgt := 131) hx hb dX6_surfacesBest_123 dX6_surfacesBest_124 (by decide) (fun h123 => ?_) (fun h123 => ?_)
                · refine lv_iconst (v := 0) hx hb dX6_surfacesBest_131 (by decide) ?_
                  refine lv_istore (lv' := [(14, .int 0), (12, .long (labs (pB rd (vA G (ix (lg g))) k10 k24 - (lp g).toInt64))), (10, .long (sR rd k24)), (8, .long (sR rd k10)), (7, .int (nI k24)), (6, .int (nI k10)), (4, .long z24.2), (2, .long z24.1), (0, .ref (a 0)), (1, .int (nI g))]) hx hb dX6_surfacesBest_132 hl (by decide) rfl (fun ls hl => ?_)
                  refine lv_iload hx hb dX6_surfacesBest_134 (lv_at hl 0 rfl) ?_
                  refine rz_eq (tgt := 175) hx hb 0 rfl (by omega) dX6_surfacesBest_136 (by decide) (fun h136 => ?_) (fun h136 => ?_)
                  · refine lv_lload_n hx hb dX6_surfacesBest_175 rfl (lv_at hl 7 rfl) ?_
                    refine lv_lstore_n (lv' := [(2, .long z24.1), (14, .int 0), (12, .long (labs (pB rd (vA G (ix (lg g))) k10 k24 - (lp g).toInt64))), (10, .long (sR rd k24)), (8, .long (sR rd k10)), (7, .int (nI k24)), (6, .int (nI k10)), (4, .long z24.2), (0, .ref (a 0)), (1, .int (nI g))]) hx hb dX6_surfacesBest_176 rfl hl (by decide) rfl (fun ls hl => ?_)
                    refine lv_iload hx hb dX6_surfacesBest_177 (lv_at hl 1 rfl) ?_
                    refine rz_eq (tgt := 187) hx hb 0 rfl (by omega) dX6_surfacesBest_179 (by decide) (fun h179 => ?_) (fun h179 => ?_)
                    · refine lv_lload hx hb dX6_surfacesBest_187 (lv_at hl 7 rfl) ?_
                      refine lv_lstore (lv' := [(4, .long z24.2), (2, .long z24.1), (14, .int 0), (12, .long (labs (pB rd (vA G (ix (lg g))) k10 k24 - (lp g).toInt64))), (10, .long (sR rd k24)), (8, .long (sR rd k10)), (7, .int (nI k24)), (6, .int (nI k10)), (0, .ref (a 0)), (1, .int (nI g))]) hx hb dX6_surfacesBest_189 hl (by decide) rfl (fun ls hl => ?_)
                      refine lv_iinc (v := nI (k24 + 1)) (lv' := [(7, .int (nI (k24 + 1))), (4, .long z24.2), (2, .long z24.1), (14, .int 0), (12, .long (labs (pB rd (vA G (ix (lg g))) k10 k24 - (lp g).toInt64))), (10, .long (sR rd k24)), (8, .long (sR rd k10)), (6, .int (nI k10)), (0, .ref (a 0)), (1, .int (nI g))]) hx hb dX6_surfacesBest_191 hl (k := 6) rfl (by first | rfl | exact nI_add _ _) (by decide) rfl (fun ls hl => ?_)
                      refine lv_goto (tgt := 24) hx hb dX6_surfacesBest_194 (by decide) ?_
                      exact ih24 z24 ((by rw [if_neg hfe]; exact (if_neg (fun w => w.2.elim h115 h123)).symm)) (trivial) ls (lv_sub hl [0, 7, 1, 2, 8, 9] rfl)
                    · exact absurd h179 (by decide)
                  · exact absurd h136 (by decide)
                · refine lv_iconst (v := 1) hx hb dX6_surfacesBest_127 (by decide) ?_
                  refine lv_goto (tgt := 132) hx hb dX6_surfacesBest_128 (by decide) ?_
                  refine lv_istore (lv' := [(14, .int 1), (12, .long (labs (pB rd (vA G (ix (lg g))) k10 k24 - (lp g).toInt64))), (10, .long (sR rd k24)), (8, .long (sR rd k10)), (7, .int (nI k24)), (6, .int (nI k10)), (4, .long z24.2), (2, .long z24.1), (0, .ref (a 0)), (1, .int (nI g))]) hx hb dX6_surfacesBest_132 hl (by decide) rfl (fun ls hl => ?_)
                  refine lv_iload hx hb dX6_surfacesBest_134 (lv_at hl 0 rfl) ?_
                  refine rz_eq (tgt := 175) hx hb 1 rfl (by omega) dX6_surfacesBest_136 (by decide) (fun h136 => ?_) (fun h136 => ?_)
                  · exact absurd h136 (by decide)
                  · refine lv_ldc2 (v := 1000) hx hb hown (hts (.constantLong RX6 115 (1000)) (by decide +kernel)) dX6_surfacesBest_139 ?_
                    refine lv_iload hx hb dX6_surfacesBest_142 (lv_at hl 5 rfl) ?_
                    refine lv_iconst (v := 2) hx hb dX6_surfacesBest_144 (by decide) ?_
                    refine lv_idiv hx hb dX6_surfacesBest_145 (by decide) ?_
                    refine rw_topi (pk_div (a := k10) (d := 2) (by omega) (by omega) (by omega)) ?_
                    refine lv_i2l (v := lN (k10 / 2)) hx hb dX6_surfacesBest_146 (nI_l (by omega)) ?_
                    refine lv_lmul hx hb dX6_surfacesBest_147 ?_
                    refine rw_topl (lN_mul 1000 (k10 / 2)) ?_
                    refine lv_ldc2 (v := 10) hx hb hown (hts (.constantLong RX6 253 (10)) (by decide +kernel)) dX6_surfacesBest_148 ?_
                    refine lv_iload hx hb dX6_surfacesBest_151 (lv_at hl 4 rfl) ?_
                    refine lv_iconst (v := 2) hx hb dX6_surfacesBest_153 (by decide) ?_
                    refine lv_idiv hx hb dX6_surfacesBest_154 (by decide) ?_
                    refine rw_topi (pk_div (a := k24) (d := 2) (by omega) (by omega) (by omega)) ?_
                    refine lv_i2l (v := lN (k24 / 2)) hx hb dX6_surfacesBest_155 (nI_l (by omega)) ?_
                    refine lv_lmul hx hb dX6_surfacesBest_156 ?_
                    refine rw_topl (lN_mul 10 (k24 / 2)) ?_
                    refine lv_ladd hx hb dX6_surfacesBest_157 ?_
                    refine rw_topl (lN_add (1000 * (k10 / 2)) (10 * (k24 / 2))) ?_
                    refine lv_iconst (v := 2) hx hb dX6_surfacesBest_158 (by decide) ?_
                    refine lv_iload hx hb dX6_surfacesBest_159 (lv_at hl 5 rfl) ?_
                    refine lv_iconst (v := 2) hx hb dX6_surfacesBest_161 (by decide) ?_
                    refine lv_irem hx hb dX6_surfacesBest_162 (by decide) ?_
                    refine rw_topi (pk_rem (a := k10) (d := 2) (by omega) (by omega) (by omega)) ?_
                    refine lv_imul hx hb dX6_surfacesBest_163 ?_
                    refine rw_topi (pk_mul 2 (k10 % 2)) ?_
                    refine lv_i2l (v := lN (2 * (k10 % 2))) hx hb dX6_surfacesBest_164 (nI_l (by omega)) ?_
                    refine lv_ladd hx hb dX6_surfacesBest_165 ?_
                    refine rw_topl (lN_add ((1000 * (k10 / 2)) + (10 * (k24 / 2))) (2 * (k10 % 2))) ?_
                    refine lv_iload hx hb dX6_surfacesBest_166 (lv_at hl 4 rfl) ?_
                    refine lv_iconst (v := 2) hx hb dX6_surfacesBest_168 (by decide) ?_
                    refine lv_irem hx hb dX6_surfacesBest_169 (by decide) ?_
                    refine rw_topi (pk_rem (a := k24) (d := 2) (by omega) (by omega) (by omega)) ?_
                    refine lv_i2l (v := lN (k24 % 2)) hx hb dX6_surfacesBest_170 (nI_l (by omega)) ?_
                    refine lv_ladd hx hb dX6_surfacesBest_171 ?_
                    refine rw_topl (lN_add (((1000 * (k10 / 2)) + (10 * (k24 / 2))) + (2 * (k10 % 2))) (k24 % 2)) ?_
                    refine lv_goto (tgt := 176) hx hb dX6_surfacesBest_172 (by decide) ?_
                    refine lv_lstore_n (lv' := [(2, .long (lN ((((1000 * (k10 / 2)) + (10 * (k24 / 2))) + (2 * (k10 % 2))) + (k24 % 2)))), (14, .int 1), (12, .long (labs (pB rd (vA G (ix (lg g))) k10 k24 - (lp g).toInt64))), (10, .long (sR rd k24)), (8, .long (sR rd k10)), (7, .int (nI k24)), (6, .int (nI k10)), (4, .long z24.2), (0, .ref (a 0)), (1, .int (nI g))]) hx hb dX6_surfacesBest_176 rfl hl (by decide) rfl (fun ls hl => ?_)
                    refine lv_iload hx hb dX6_surfacesBest_177 (lv_at hl 1 rfl) ?_
                    refine rz_eq (tgt := 187) hx hb 1 rfl (by omega) dX6_surfacesBest_179 (by decide) (fun h179 => ?_) (fun h179 => ?_)
                    · exact absurd h179 (by decide)
                    · refine lv_lload hx hb dX6_surfacesBest_182 (lv_at hl 2 rfl) ?_
                      refine lv_goto (tgt := 189) hx hb dX6_surfacesBest_184 (by decide) ?_
                      refine lv_lstore (lv' := [(4, .long (labs (pB rd (vA G (ix (lg g))) k10 k24 - (lp g).toInt64))), (2, .long (lN ((((1000 * (k10 / 2)) + (10 * (k24 / 2))) + (2 * (k10 % 2))) + (k24 % 2)))), (14, .int 1), (12, .long (labs (pB rd (vA G (ix (lg g))) k10 k24 - (lp g).toInt64))), (10, .long (sR rd k24)), (8, .long (sR rd k10)), (7, .int (nI k24)), (6, .int (nI k10)), (0, .ref (a 0)), (1, .int (nI g))]) hx hb dX6_surfacesBest_189 hl (by decide) rfl (fun ls hl => ?_)
                      refine lv_iinc (v := nI (k24 + 1)) (lv' := [(7, .int (nI (k24 + 1))), (4, .long (labs (pB rd (vA G (ix (lg g))) k10 k24 - (lp g).toInt64))), (2, .long (lN ((((1000 * (k10 / 2)) + (10 * (k24 / 2))) + (2 * (k10 % 2))) + (k24 % 2)))), (14, .int 1), (12, .long (labs (pB rd (vA G (ix (lg g))) k10 k24 - (lp g).toInt64))), (10, .long (sR rd k24)), (8, .long (sR rd k10)), (6, .int (nI k10)), (0, .ref (a 0)), (1, .int (nI g))]) hx hb dX6_surfacesBest_191 hl (k := 6) rfl (by first | rfl | exact nI_add _ _) (by decide) rfl (fun ls hl => ?_)
                      refine lv_goto (tgt := 24) hx hb dX6_surfacesBest_194 (by decide) ?_
                      exact ih24 (lN ((((1000 * (k10 / 2)) + (10 * (k24 / 2))) + (2 * (k10 % 2))) + (k24 % 2)), labs (pB rd (vA G (ix (lg g))) k10 k24 - (lp g).toInt64)) ((by rw [if_neg hfe]; exact (if_pos ⟨Int64.not_lt.mp h107, Or.inr h123⟩).symm)) (trivial) ls (lv_sub hl [0, 7, 1, 2, 8, 9] rfl)
          · have hfe : k10 = k24 := (sR_inj hR (by omega) (by omega)).mp h67
            refine lv_ldc2 (v := (-1)) hx hb hown (hts (.constantLong RX6 203 (-1)) (by decide +kernel)) dX6_surfacesBest_71 ?_
            refine lv_goto (tgt := 102) hx hb dX6_surfacesBest_74 (by decide) ?_
            refine lv_lstore (lv' := [(12, .long (-1)), (10, .long (sR rd k24)), (8, .long (sR rd k10)), (7, .int (nI k24)), (6, .int (nI k10)), (4, .long z24.2), (2, .long z24.1), (0, .ref (a 0)), (1, .int (nI g))]) hx hb dX6_surfacesBest_102 hl (by decide) rfl (fun ls hl => ?_)
            refine lv_lload hx hb dX6_surfacesBest_104 (lv_at hl 0 rfl) ?_
            refine lv_lconst (v := 0) hx hb dX6_surfacesBest_106 (by decide) ?_
            refine rl_iflt (tgt := 131) hx hb dX6_surfacesBest_107 dX6_surfacesBest_108 (by decide) (fun h107 => ?_) (fun h107 => ?_)
            · refine lv_iconst (v := 0) hx hb dX6_surfacesBest_131 (by decide) ?_
              refine lv_istore (lv' := [(14, .int 0), (12, .long (-1)), (10, .long (sR rd k24)), (8, .long (sR rd k10)), (7, .int (nI k24)), (6, .int (nI k10)), (4, .long z24.2), (2, .long z24.1), (0, .ref (a 0)), (1, .int (nI g))]) hx hb dX6_surfacesBest_132 hl (by decide) rfl (fun ls hl => ?_)
              refine lv_iload hx hb dX6_surfacesBest_134 (lv_at hl 0 rfl) ?_
              refine rz_eq (tgt := 175) hx hb 0 rfl (by omega) dX6_surfacesBest_136 (by decide) (fun h136 => ?_) (fun h136 => ?_)
              · refine lv_lload_n hx hb dX6_surfacesBest_175 rfl (lv_at hl 7 rfl) ?_
                refine lv_lstore_n (lv' := [(2, .long z24.1), (14, .int 0), (12, .long (-1)), (10, .long (sR rd k24)), (8, .long (sR rd k10)), (7, .int (nI k24)), (6, .int (nI k10)), (4, .long z24.2), (0, .ref (a 0)), (1, .int (nI g))]) hx hb dX6_surfacesBest_176 rfl hl (by decide) rfl (fun ls hl => ?_)
                refine lv_iload hx hb dX6_surfacesBest_177 (lv_at hl 1 rfl) ?_
                refine rz_eq (tgt := 187) hx hb 0 rfl (by omega) dX6_surfacesBest_179 (by decide) (fun h179 => ?_) (fun h179 => ?_)
                · refine lv_lload hx hb dX6_surfacesBest_187 (lv_at hl 7 rfl) ?_
                  refine lv_lstore (lv' := [(4, .long z24.2), (2, .long z24.1), (14, .int 0), (12, .long (-1)), (10, .long (sR rd k24)), (8, .long (sR rd k10)), (7, .int (nI k24)), (6, .int (nI k10)), (0, .ref (a 0)), (1, .int (nI g))]) hx hb dX6_surfacesBest_189 hl (by decide) rfl (fun ls hl => ?_)
                  refine lv_iinc (v := nI (k24 + 1)) (lv' := [(7, .int (nI (k24 + 1))), (4, .long z24.2), (2, .long z24.1), (14, .int 0), (12, .long (-1)), (10, .long (sR rd k24)), (8, .long (sR rd k10)), (6, .int (nI k10)), (0, .ref (a 0)), (1, .int (nI g))]) hx hb dX6_surfacesBest_191 hl (k := 6) rfl (by first | rfl | exact nI_add _ _) (by decide) rfl (fun ls hl => ?_)
                  refine lv_goto (tgt := 24) hx hb dX6_surfacesBest_194 (by decide) ?_
                  exact ih24 z24 ((by rw [if_pos hfe]; exact (pick_neg _ _).symm)) (trivial) ls (lv_sub hl [0, 7, 1, 2, 8, 9] rfl)
                · exact absurd h179 (by decide)
              · exact absurd h136 (by decide)
            · exact absurd h107 (by decide)
      · refine lv_iload hx hb dX6_surfacesBest_24 (lv_at hl 0 rfl) ?_
        refine lv_iconst (v := 2) hx hb dX6_surfacesBest_26 (by decide) ?_
        refine lv_aload_n hx hb dX6_surfacesBest_27 rfl (lv_at hl 4 rfl) ?_
        refine va_get (D := (dC, dI)) (ci := 6) (v := .int (nI np)) (C := RX6) (T := TX6) (N := 18) hx hb hts (by decide +kernel) hown hK hP 0 rfl rfl 8 (by decide) (hts (.fieldLink RX6 243 "AchromatDeskModel" "plates" "I") (by decide +kernel)) (fun _ h9 => h9) rfl dX6_surfacesBest_28 ?_
        refine lv_imul hx hb dX6_surfacesBest_31 ?_
        refine rw_topi (pk_mul 2 np) ?_
        refine rn_ge (tgt := 197) hx hb (2 * np) (2 * np) rfl rfl (by omega) (by omega) dX6_surfacesBest_32 (by decide) (fun h32 => ?_) (fun h32 => ?_)
        · refine lv_iinc (v := nI (k10 + 1)) (lv' := [(6, .int (nI (k10 + 1))), (7, .int (nI (2 * np))), (4, .long z24.2), (2, .long z24.1), (0, .ref (a 0)), (1, .int (nI g))]) hx hb dX6_surfacesBest_197 hl (k := 1) rfl (by first | rfl | exact nI_add _ _) (by decide) rfl (fun ls hl => ?_)
          refine lv_goto (tgt := 10) hx hb dX6_surfacesBest_200 (by decide) ?_
          exact ih10 z24 (hz24) (trivial) ls (lv_sub hl [0, 2, 3, 4, 5] rfl)
        · exfalso; omega
  · refine lv_iload hx hb dX6_surfacesBest_10 (lv_at hl 0 rfl) ?_
    refine lv_iconst (v := 2) hx hb dX6_surfacesBest_12 (by decide) ?_
    refine lv_aload_n hx hb dX6_surfacesBest_13 rfl (lv_at hl 3 rfl) ?_
    refine va_get (D := (dC, dI)) (ci := 6) (v := .int (nI np)) (C := RX6) (T := TX6) (N := 18) hx hb hts (by decide +kernel) hown hK hP 0 rfl rfl 8 (by decide) (hts (.fieldLink RX6 243 "AchromatDeskModel" "plates" "I") (by decide +kernel)) (fun _ h9 => h9) rfl dX6_surfacesBest_14 ?_
    refine lv_imul hx hb dX6_surfacesBest_17 ?_
    refine rw_topi (pk_mul 2 np) ?_
    refine rn_ge (tgt := 203) hx hb (2 * np) (2 * np) rfl rfl (by omega) (by omega) dX6_surfacesBest_18 (by decide) (fun h18 => ?_) (fun h18 => ?_)
    · refine lv_lload_n hx hb dX6_surfacesBest_203 rfl (lv_at hl 2 rfl) ?_
      exact W.lret hx hb hr (fun t ht hW => ⟨_, rfl, by rw [hz10]; rfl, ht⟩) (fun _ h => absurd h List.not_mem_nil) dX6_surfacesBest_204
    · exfalso; omega

set_option maxHeartbeats 4000000 in
set_option maxRecDepth 100000 in
theorem c_X6_bestSurfaces (l : Launch) (dC : Nat → ClassId) (dI : Nat → Nat → Nat) (cI cJ : ClassId) (a : Nat → Nat) (bf : Nat → Int32) (ln : Nat) (hln : ln ≤ 28) (G : GL) (n : Nat) (hn : n ≤ 20) (lg lp : Nat → Int32) (k : Nat) (hk : k ≤ 8) (rd : Nat → Int32) (np : Nat) (hp : np ≤ 16) (M : MS) (hG : gOK G n) (hL : lOK lg k n) (hR : rOK rd np) (x : Int32) : Met l yX6_bestSurfaces wsX6_bestSurfaces ({ frames := 3, cells := 0, slots := 0, locals := 84 }) (va_Pc [.ref (a 0), .int x] (RO (dC, dI) (tyK cI cJ) ([(a 0, .inr (6, [.int (nI ln), .ref (a 1), .int (nI n), .ref (a 2), .ref (a 3), .int (nI k), .ref (a 4), .ref (a 5), .int (nI np), .ref (a 6), .long M.1, .ref (a 7), .int M.2.1, .int M.2.2.1, .int M.2.2.2.1, .int M.2.2.2.2.1, .ref (a 8), .long M.2.2.2.2.2.1])), (a 1, .inl (cI, 28, .inl bf)), (a 2, .inl (cJ, 20, .inr (.inl (gK G)))), (a 3, .inl (cI, 60, .inl (ilv G))), (a 4, .inl (cI, 8, .inl lg)), (a 5, .inl (cI, 8, .inl lp)), (a 6, .inl (cI, 16, .inl rd)), (a 7, .inl (cI, 3, .inl M.2.2.2.2.2.2.1)), (a 8, .inl (cJ, 3, .inr (.inl M.2.2.2.2.2.2.2)))]))) (vp_Sl (fun r => r = sBS G lg lp k rd np x)) 0 0 (fun _ => False) := by
  refine Met.ofW (cc := cX6_bestSurfaces) (maxL := 2) (ret := (some .long)) (by decide) rfl ?_
  intro p e s m args below meth c s₁ B hml hv
  obtain ⟨rfl, hP, hK, hN⟩ := hv
  have hx := B.exec
  have hb := B.bytes
  have hr := B.returns
  have hts := atoms_spec (ws := wsX6_bestSurfaces) B.pre
  have hown : s.vm.findClass RX6 = some m.cls := findClass_of_methodNamed B.named
  have hlocks := B.notSynchronized
  have hP : va_P (dC, dI) vwCl [(a 0, .inr (6, [.int (nI ln), .ref (a 1), .int (nI n), .ref (a 2), .ref (a 3), .int (nI k), .ref (a 4), .ref (a 5), .int (nI np), .ref (a 6), .long M.1, .ref (a 7), .int M.2.1, .int M.2.2.1, .int M.2.2.2.1, .int M.2.2.2.2.1, .ref (a 8), .long M.2.2.2.2.2.1])), (a 1, .inl (cI, 28, .inl bf)), (a 2, .inl (cJ, 20, .inr (.inl (gK G)))), (a 3, .inl (cI, 60, .inl (ilv G))), (a 4, .inl (cI, 8, .inl lg)), (a 5, .inl (cI, 8, .inl lp)), (a 6, .inl (cI, 16, .inl rd)), (a 7, .inl (cI, 3, .inl M.2.2.2.2.2.2.1)), (a 8, .inl (cJ, 3, .inr (.inl M.2.2.2.2.2.2.2)))] s.heap := hP
  have hl := lv_entry ([.ref (a 0), .int x]) (n := 2) (Nat.le_of_ble_eq_true rfl)
  rw [lg_entry_eq]
  generalize (lg_sl ([.ref (a 0), .int x]) ++ List.replicate (2 - (lg_sl ([.ref (a 0), .int x])).length) Slot.unset).toArray = ls at hl ⊢
  have hl : lv_has ls 2 [(0, .ref (a 0)), (1, .int x)] := hl
  refine lv_aload_n hx hb dX6_bestSurfaces_0 rfl (lv_at hl 0 rfl) ?_
  refine lv_iload_n hx hb dX6_bestSurfaces_1 rfl (lv_at hl 1 rfl) ?_
  refine roVi (As := [.int x]) (rest := []) (c_X6_isLens l dC dI cI cJ a bf ln (by omega) G n (by omega) lg lp k (by omega) rd np (by omega) M hG hL hR x) ⟨hx, hb, hml, hown, hts⟩ (cwV 1 hts gX6_bestSurfaces_X6_isLens rfl rfl rfl (by decide +kernel) ⟨Nat.le_of_ble_eq_true rfl, Nat.le_of_ble_eq_true rfl⟩) (hP.sub [0, 1, 2, 3, 4, 5, 6, 7, 8] rfl) hK hN (ci := 6) rfl rfl rfl hl.1 rfl (Nat.le_of_ble_eq_true rfl) dX6_bestSurfaces_2 ⟨Nat.zero_le _, Nat.zero_le _⟩ (fun r hr0 => ?_)
  subst hr0
  refine rb_eq (tgt := 16) hx hb dX6_bestSurfaces_5 (by decide) (fun h5 => ?_) (fun h5 => ?_)
  · refine lv_ldc2 (v := (-9000000000000000003)) hx hb hown (hts (.constantLong RX6 218 (-9000000000000000003)) (by decide +kernel)) dX6_bestSurfaces_16 ?_
    exact W.lret hx hb hr (fun t ht hW => ⟨_, rfl, by rw [sBS, if_neg h5], ht⟩) (fun _ h => absurd h List.not_mem_nil) dX6_bestSurfaces_19
  · obtain ⟨g, hg, eg⟩ := hasP_ex (by omega) h5
    subst eg
    refine lv_aload_n hx hb dX6_bestSurfaces_8 rfl (lv_at hl 0 rfl) ?_
    refine lv_iload_n hx hb dX6_bestSurfaces_9 rfl (lv_at hl 1 rfl) ?_
    refine roVl (As := [.int (nI g)]) (rest := []) (c_X6_surfacesBest l dC dI cI cJ a bf ln (by omega) G n (by omega) lg lp k (by omega) rd np (by omega) M hG hL hR g (by omega)) ⟨hx, hb, hml, hown, hts⟩ (cwV 1 hts gX6_bestSurfaces_X6_surfacesBest rfl rfl rfl (by decide +kernel) ⟨Nat.le_of_ble_eq_true rfl, Nat.le_of_ble_eq_true rfl⟩) (hP.sub [0, 1, 2, 3, 4, 5, 6, 7, 8] rfl) hK hN (ci := 6) rfl rfl rfl hl.1 rfl (Nat.le_of_ble_eq_true rfl) dX6_bestSurfaces_10 ⟨Nat.zero_le _, Nat.zero_le _⟩ (fun r hr0 => ?_)
    subst hr0
    refine lv_goto (tgt := 19) hx hb dX6_bestSurfaces_13 (by decide) ?_
    exact W.lret hx hb hr (fun t ht hW => ⟨_, rfl, by rw [sBS, if_pos h5, ix_nI (by omega)], ht⟩) (fun _ h => absurd h List.not_mem_nil) dX6_bestSurfaces_19

set_option maxHeartbeats 4000000 in
set_option maxRecDepth 100000 in
theorem c_X6_surfacePower (l : Launch) (dC : Nat → ClassId) (dI : Nat → Nat → Nat) (cI cJ : ClassId) (a : Nat → Nat) (bf : Nat → Int32) (ln : Nat) (hln : ln ≤ 28) (G : GL) (n : Nat) (hn : n ≤ 20) (lg lp : Nat → Int32) (k : Nat) (hk : k ≤ 8) (rd : Nat → Int32) (np : Nat) (hp : np ≤ 16) (M : MS) (hG : gOK G n) (hL : lOK lg k n) (hR : rOK rd np) (x y : Int32) : Met l yX6_surfacePower wsX6_surfacePower ({ frames := 2, cells := 0, slots := 0, locals := 50 }) (va_Pc [.ref (a 0), .int x, .int y] (RO (dC, dI) (tyK cI cJ) ([(a 0, .inr (6, [.int (nI ln), .ref (a 1), .int (nI n), .ref (a 2), .ref (a 3), .int (nI k), .ref (a 4), .ref (a 5), .int (nI np), .ref (a 6), .long M.1, .ref (a 7), .int M.2.1, .int M.2.2.1, .int M.2.2.2.1, .int M.2.2.2.2.1, .ref (a 8), .long M.2.2.2.2.2.1])), (a 1, .inl (cI, 28, .inl bf)), (a 2, .inl (cJ, 20, .inr (.inl (gK G)))), (a 3, .inl (cI, 60, .inl (ilv G))), (a 4, .inl (cI, 8, .inl lg)), (a 5, .inl (cI, 8, .inl lp)), (a 6, .inl (cI, 16, .inl rd)), (a 7, .inl (cI, 3, .inl M.2.2.2.2.2.2.1)), (a 8, .inl (cJ, 3, .inr (.inl M.2.2.2.2.2.2.2)))]))) (vp_Sl (fun r => r = sSP G n rd np x y)) 0 0 (fun _ => False) := by
  refine Met.ofW (cc := cX6_surfacePower) (maxL := 9) (ret := (some .long)) (by decide) rfl ?_
  intro p e s m args below meth c s₁ B hml hv
  obtain ⟨rfl, hP, hK, hN⟩ := hv
  have hx := B.exec
  have hb := B.bytes
  have hr := B.returns
  have hts := atoms_spec (ws := wsX6_surfacePower) B.pre
  have hown : s.vm.findClass RX6 = some m.cls := findClass_of_methodNamed B.named
  have hlocks := B.notSynchronized
  have hP : va_P (dC, dI) vwCl [(a 0, .inr (6, [.int (nI ln), .ref (a 1), .int (nI n), .ref (a 2), .ref (a 3), .int (nI k), .ref (a 4), .ref (a 5), .int (nI np), .ref (a 6), .long M.1, .ref (a 7), .int M.2.1, .int M.2.2.1, .int M.2.2.2.1, .int M.2.2.2.2.1, .ref (a 8), .long M.2.2.2.2.2.1])), (a 1, .inl (cI, 28, .inl bf)), (a 2, .inl (cJ, 20, .inr (.inl (gK G)))), (a 3, .inl (cI, 60, .inl (ilv G))), (a 4, .inl (cI, 8, .inl lg)), (a 5, .inl (cI, 8, .inl lp)), (a 6, .inl (cI, 16, .inl rd)), (a 7, .inl (cI, 3, .inl M.2.2.2.2.2.2.1)), (a 8, .inl (cJ, 3, .inr (.inl M.2.2.2.2.2.2.2)))] s.heap := hP
  have hl := lv_entry ([.ref (a 0), .int x, .int y]) (n := 9) (Nat.le_of_ble_eq_true rfl)
  rw [lg_entry_eq]
  generalize (lg_sl ([.ref (a 0), .int x, .int y]) ++ List.replicate (9 - (lg_sl ([.ref (a 0), .int x, .int y])).length) Slot.unset).toArray = ls at hl ⊢
  have hl : lv_has ls 9 [(0, .ref (a 0)), (1, .int x), (2, .int y)] := hl
  refine lv_aload_n hx hb dX6_surfacePower_0 rfl (lv_at hl 0 rfl) ?_
  refine lv_iload_n hx hb dX6_surfacePower_1 rfl (lv_at hl 1 rfl) ?_
  refine roVi (As := [.int x]) (rest := []) (c_X6_isGlass l dC dI cI cJ a bf ln (by omega) G n (by omega) lg lp k (by omega) rd np (by omega) M hG hL hR x) ⟨hx, hb, hml, hown, hts⟩ (cwV 1 hts gX6_surfacePower_X6_isGlass rfl rfl rfl (by decide +kernel) ⟨Nat.le_of_ble_eq_true rfl, Nat.le_of_ble_eq_true rfl⟩) (hP.sub [0, 1, 2, 3, 4, 5, 6, 7, 8] rfl) hK hN (ci := 6) rfl rfl rfl hl.1 rfl (Nat.le_of_ble_eq_true rfl) dX6_surfacePower_2 ⟨Nat.zero_le _, Nat.zero_le _⟩ (fun r hr0 => ?_)
  subst hr0
  refine rb_ne (tgt := 12) hx hb dX6_surfacePower_5 (by decide) (fun h5 => ?_) (fun h5 => ?_)
  · obtain ⟨g, hg, eg⟩ := hasP_ex (by omega) h5
    subst eg
    refine lv_iload_n hx hb dX6_surfacePower_12 rfl (lv_at hl 2 rfl) ?_
    refine lv_sipush (v := 1000) hx hb dX6_surfacePower_13 (by decide) ?_
    refine lv_idiv hx hb dX6_surfacePower_16 (by decide) ?_
    refine lv_istore_n (lv' := [(3, .int (y / 1000)), (0, .ref (a 0)), (1, .int (nI g)), (2, .int y)]) hx hb dX6_surfacePower_17 rfl hl (by decide) rfl (fun ls hl => ?_)
    refine lv_iload_n hx hb dX6_surfacePower_18 rfl (lv_at hl 3 rfl) ?_
    refine lv_bipush (v := 10) hx hb dX6_surfacePower_19 (by decide) ?_
    refine lv_idiv hx hb dX6_surfacePower_21 (by decide) ?_
    refine lv_bipush (v := 100) hx hb dX6_surfacePower_22 (by decide) ?_
    refine lv_irem hx hb dX6_surfacePower_24 (by decide) ?_
    refine lv_istore (lv' := [(4, .int ((y / 10) - (y / 10) / 100 * 100)), (3, .int (y / 1000)), (0, .ref (a 0)), (1, .int (nI g)), (2, .int y)]) hx hb dX6_surfacePower_25 hl (by decide) rfl (fun ls hl => ?_)
    refine lv_iload_n hx hb dX6_surfacePower_27 rfl (lv_at hl 4 rfl) ?_
    refine lv_if_lt (tgt := 56) hx hb dX6_surfacePower_28 (by decide) (fun h28 => ?_) (fun h28 => ?_)
    · refine lv_ldc2 (v := (-9000000000000000001)) hx hb hown (hts (.constantLong RX6 53 (-9000000000000000001)) (by decide +kernel)) dX6_surfacePower_56 ?_
      exact W.lret hx hb hr (fun t ht hW => ⟨_, rfl, by rw [sSP, if_pos h5, if_neg (fun w => absurd w.1 (Int32.not_le.mpr h28))], ht⟩) (fun _ h => absurd h List.not_mem_nil) dX6_surfacePower_59
    · obtain ⟨ch, hch, ech⟩ := nI_of h28
      subst ech
      rw [show (nI ch / 1000 : Int32) = nI (ch / 1000) from pk_div (d := 1000) (by omega) (by omega) (by omega), show (nI ch / 10 - nI ch / 10 / 100 * 100 : Int32) = nI (ch / 10 % 100) from by rw [show (nI ch / 10 : Int32) = nI (ch / 10) from pk_div (d := 10) (by omega) (by omega) (by omega)]; exact pk_rem (d := 100) (by omega) (by omega) (by omega)] at hl
      refine lv_iload_n hx hb dX6_surfacePower_31 rfl (lv_at hl 4 rfl) ?_
      refine lv_bipush (v := 10) hx hb dX6_surfacePower_32 (by decide) ?_
      refine lv_irem hx hb dX6_surfacePower_34 (by decide) ?_
      refine rw_topi (pk_rem (a := ch) (d := 10) (by omega) (by omega) (by omega)) ?_
      refine lv_iconst (v := 3) hx hb dX6_surfacePower_35 (by decide) ?_
      refine rn_gt (tgt := 56) hx hb (ch % 10) 3 rfl rfl (by omega) (by omega) dX6_surfacePower_36 (by decide) (fun h36 => ?_) (fun h36 => ?_)
      · refine lv_ldc2 (v := (-9000000000000000001)) hx hb hown (hts (.constantLong RX6 53 (-9000000000000000001)) (by decide +kernel)) dX6_surfacePower_56 ?_
        exact W.lret hx hb hr (fun t ht hW => ⟨_, rfl, by rw [sSP, if_pos h5, ix_nI (g := ch) (by omega), if_neg (fun w => by omega)], ht⟩) (fun _ h => absurd h List.not_mem_nil) dX6_surfacePower_59
      · refine lv_iload_n hx hb dX6_surfacePower_39 rfl (lv_at hl 1 rfl) ?_
        refine lv_aload_n hx hb dX6_surfacePower_40 rfl (lv_at hl 2 rfl) ?_
        refine va_get (D := (dC, dI)) (ci := 6) (v := .int (nI np)) (C := RX6) (T := TX6) (N := 18) hx hb hts (by decide +kernel) hown hK hP 0 rfl rfl 8 (by decide) (hts (.fieldLink RX6 243 "AchromatDeskModel" "plates" "I") (by decide +kernel)) (fun _ h9 => h9) rfl dX6_surfacePower_41 ?_
        refine rn_ge (tgt := 56) hx hb (ch / 1000) np rfl rfl (by omega) (by omega) dX6_surfacePower_44 (by decide) (fun h44 => ?_) (fun h44 => ?_)
        · refine lv_ldc2 (v := (-9000000000000000001)) hx hb hown (hts (.constantLong RX6 53 (-9000000000000000001)) (by decide +kernel)) dX6_surfacePower_56 ?_
          exact W.lret hx hb hr (fun t ht hW => ⟨_, rfl, by rw [sSP, if_pos h5, ix_nI (g := ch) (by omega), if_neg (fun w => by omega)], ht⟩) (fun _ h => absurd h List.not_mem_nil) dX6_surfacePower_59
        · refine lv_iload hx hb dX6_surfacePower_47 (lv_at hl 0 rfl) ?_
          refine lv_aload_n hx hb dX6_surfacePower_49 rfl (lv_at hl 2 rfl) ?_
          refine va_get (D := (dC, dI)) (ci := 6) (v := .int (nI np)) (C := RX6) (T := TX6) (N := 18) hx hb hts (by decide +kernel) hown hK hP 0 rfl rfl 8 (by decide) (hts (.fieldLink RX6 243 "AchromatDeskModel" "plates" "I") (by decide +kernel)) (fun _ h9 => h9) rfl dX6_surfacePower_50 ?_
          refine rn_lt (tgt := 60) hx hb (ch / 10 % 100) np rfl rfl (by omega) (by omega) dX6_surfacePower_53 (by decide) (fun h53 => ?_) (fun h53 => ?_)
          · refine lv_aload_n hx hb dX6_surfacePower_60 rfl (lv_at hl 2 rfl) ?_
            refine lv_iload_n hx hb dX6_surfacePower_61 rfl (lv_at hl 1 rfl) ?_
            refine lv_iload_n hx hb dX6_surfacePower_62 rfl (lv_at hl 4 rfl) ?_
            refine lv_bipush (v := 10) hx hb dX6_surfacePower_63 (by decide) ?_
            refine lv_irem hx hb dX6_surfacePower_65 (by decide) ?_
            refine rw_topi (pk_rem (a := ch) (d := 10) (by omega) (by omega) (by omega)) ?_
            refine lv_iconst (v := 2) hx hb dX6_surfacePower_66 (by decide) ?_
            refine lv_idiv hx hb dX6_surfacePower_67 (by decide) ?_
            refine rw_topi (pk_div (a := ch % 10) (d := 2) (by omega) (by omega) (by omega)) ?_
            refine roVl (As := [.int (nI (ch / 1000)), .int (nI ((ch % 10) / 2))]) (rest := []) (c_X6_signed l dC dI cI cJ a bf ln (by omega) G n (by omega) lg lp k (by omega) rd np (by omega) M hG hL hR (ch / 1000) ((ch % 10) / 2) (by omega) (by omega)) ⟨hx, hb, hml, hown, hts⟩ (cwV 2 hts gX6_surfacePower_X6_signed rfl rfl rfl (by decide +kernel) ⟨Nat.le_of_ble_eq_true rfl, Nat.le_of_ble_eq_true rfl⟩) (hP.sub [0, 1, 2, 3, 4, 5, 6, 7, 8] rfl) hK hN (ci := 6) rfl rfl rfl hl.1 rfl (Nat.le_of_ble_eq_true rfl) dX6_surfacePower_68 ⟨Nat.zero_le _, Nat.zero_le _⟩ (fun r hr0 => ?_)
            subst hr0
            refine lv_lstore (lv' := [(5, .long (sR rd (2 * (ch / 1000) + ((ch % 10) / 2)))), (4, .int (nI (ch / 10 % 100))), (3, .int (nI (ch / 1000))), (0, .ref (a 0)), (1, .int (nI g)), (2, .int (nI ch))]) hx hb dX6_surfacePower_71 hl (by decide) rfl (fun ls hl => ?_)
            refine lv_aload_n hx hb dX6_surfacePower_73 rfl (lv_at hl 3 rfl) ?_
            refine lv_iload hx hb dX6_surfacePower_74 (lv_at hl 1 rfl) ?_
            refine lv_iload_n hx hb dX6_surfacePower_76 rfl (lv_at hl 5 rfl) ?_
            refine lv_iconst (v := 2) hx hb dX6_surfacePower_77 (by decide) ?_
            refine lv_irem hx hb dX6_surfacePower_78 (by decide) ?_
            refine rw_topi (pk_rem (a := ch) (d := 2) (by omega) (by omega) (by omega)) ?_
            refine roVl (As := [.int (nI (ch / 10 % 100)), .int (nI (ch % 2))]) (rest := []) (c_X6_signed l dC dI cI cJ a bf ln (by omega) G n (by omega) lg lp k (by omega) rd np (by omega) M hG hL hR (ch / 10 % 100) (ch % 2) (by omega) (by omega)) ⟨hx, hb, hml, hown, hts⟩ (cwV 2 hts gX6_surfacePower_X6_signed rfl rfl rfl (by decide +kernel) ⟨Nat.le_of_ble_eq_true rfl, Nat.le_of_ble_eq_true rfl⟩) (hP.sub [0, 1, 2, 3, 4, 5, 6, 7, 8] rfl) hK hN (ci := 6) rfl rfl rfl hl.1 rfl (Nat.le_of_ble_eq_true rfl) dX6_surfacePower_79 ⟨Nat.zero_le _, Nat.zero_le _⟩ (fun r hr0 => ?_)
            subst hr0
            refine lv_lstore (lv' := [(7, .long (sR rd (2 * (ch / 10 % 100) + (ch % 2)))), (5, .long (sR rd (2 * (ch / 1000) + ((ch % 10) / 2)))), (4, .int (nI (ch / 10 % 100))), (3, .int (nI (ch / 1000))), (0, .ref (a 0)), (1, .int (nI g)), (2, .int (nI ch))]) hx hb dX6_surfacePower_82 hl (by decide) rfl (fun ls hl => ?_)
            refine lv_lload hx hb dX6_surfacePower_84 (lv_at hl 1 rfl) ?_
            refine lv_lload hx hb dX6_surfacePower_86 (lv_at hl 0 rfl) ?_
            refine rl_ifne (tgt := 98) hx hb dX6_surfacePower_88 dX6_surfacePower_89 (by decide) (fun h88 => ?_) (fun h88 => ?_)
            · have hfe : ¬ 2 * (ch / 1000) + ch % 10 / 2 = 2 * (ch / 10 % 100) + ch % 2 := fun w => h88 ((sR_inj hR (by omega) (by omega)).mpr w)
              have hrs := sR_ne hR (show 2 * (ch / 1000) + ch % 10 / 2 < 2 * np by omega) (show 2 * (ch / 10 % 100) + ch % 2 < 2 * np by omega)
              refine lv_aload_n hx hb dX6_surfacePower_98 rfl (lv_at hl 4 rfl) ?_
              refine lv_iload_n hx hb dX6_surfacePower_99 rfl (lv_at hl 5 rfl) ?_
              refine lv_lload hx hb dX6_surfacePower_100 (lv_at hl 1 rfl) ?_
              refine lv_lload hx hb dX6_surfacePower_102 (lv_at hl 0 rfl) ?_
              refine roVl (As := [.int (nI g), .long (sR rd (2 * (ch / 1000) + ((ch % 10) / 2))), .long (sR rd (2 * (ch / 10 % 100) + (ch % 2)))]) (rest := []) (c_X6_surfaces l dC dI cI cJ a bf ln (by omega) G n (by omega) lg lp k (by omega) rd np (by omega) M hG hL hR g (by omega) (sR rd (2 * (ch / 1000) + ((ch % 10) / 2))) (sR rd (2 * (ch / 10 % 100) + (ch % 2))) (by assumption)) ⟨hx, hb, hml, hown, hts⟩ (cwV 3 hts gX6_surfacePower_X6_surfaces rfl rfl rfl (by decide +kernel) ⟨Nat.le_of_ble_eq_true rfl, Nat.le_of_ble_eq_true rfl⟩) (hP.sub [0, 1, 2, 3, 4, 5, 6, 7, 8] rfl) hK hN (ci := 6) rfl rfl rfl hl.1 rfl (Nat.le_of_ble_eq_true rfl) dX6_surfacePower_104 ⟨Nat.zero_le _, Nat.zero_le _⟩ (fun r hr0 => ?_)
              subst hr0
              exact W.lret hx hb hr (fun t ht hW => ⟨_, rfl, by rw [sSP, if_pos h5, ix_nI (g := ch) (by omega), if_pos ⟨nI_pos' (by omega), h36, h44, h53⟩, if_neg hfe, ix_nI (g := g) (by omega)]; rfl, ht⟩) (fun _ h => absurd h List.not_mem_nil) dX6_surfacePower_107
            · have hfe : 2 * (ch / 1000) + ch % 10 / 2 = 2 * (ch / 10 % 100) + ch % 2 := (sR_inj hR (by omega) (by omega)).mp h88
              refine lv_ldc2 (v := (-9000000000000000001)) hx hb hown (hts (.constantLong RX6 53 (-9000000000000000001)) (by decide +kernel)) dX6_surfacePower_92 ?_
              refine lv_goto (tgt := 107) hx hb dX6_surfacePower_95 (by decide) ?_
              exact W.lret hx hb hr (fun t ht hW => ⟨_, rfl, by rw [sSP, if_pos h5, ix_nI (g := ch) (by omega), if_pos ⟨nI_pos' (by omega), h36, h44, h53⟩, if_pos hfe], ht⟩) (fun _ h => absurd h List.not_mem_nil) dX6_surfacePower_107
          · refine lv_ldc2 (v := (-9000000000000000001)) hx hb hown (hts (.constantLong RX6 53 (-9000000000000000001)) (by decide +kernel)) dX6_surfacePower_56 ?_
            exact W.lret hx hb hr (fun t ht hW => ⟨_, rfl, by rw [sSP, if_pos h5, ix_nI (g := ch) (by omega), if_neg (fun w => by omega)], ht⟩) (fun _ h => absurd h List.not_mem_nil) dX6_surfacePower_59
  · refine lv_ldc2 (v := (-9000000000000000002)) hx hb hown (hts (.constantLong RX6 104 (-9000000000000000002)) (by decide +kernel)) dX6_surfacePower_8 ?_
    exact W.lret hx hb hr (fun t ht hW => ⟨_, rfl, by rw [sSP, if_neg h5], ht⟩) (fun _ h => absurd h List.not_mem_nil) dX6_surfacePower_11
