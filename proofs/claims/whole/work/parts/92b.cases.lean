section LAW1
variable {p : Program} {l : Launch} {e : Env} {s : State} {m : MethodId} {below : List Frame} {meth : Method} {c : Code} {b L : Nat} {xs : Nat → Int32} {dC : Nat → ClassId} {dI : Nat → Nat → Nat} {cI cJ : ClassId} {q a : Nat → Nat}
set_option maxHeartbeats 4000000 in
set_option maxRecDepth 100000 in
theorem law_326 (C0 : lw_At p s m meth c b L xs) (hLn : L ≤ 3584) (hK : va_K (dC, dI) vwCl (tyK cI cJ) s) (hN : NW s) {i : Nat} (hi : i + 7 ≤ L) (ih : LC p l e s m below meth c b dC dI cI cJ q a 1028 i) : LC p l e s m below meth c b dC dI cI cJ q a 326 i := by
  intro bf ln hln G n hn lg lp k hk rd np hp hG hL hpw hR R M H locs hP hD hS ls hl
  obtain ⟨hx, hb, hr, hml, hown, hts, hX, hbl, hlocks, hgv⟩ := C0
  have hts : ∀ w ∈ wsL_law, w.before #[Value.ref b] s = true := fun w h => hts w (wsL_law_in w h)
  have hown : s.vm.findClass RL = some m.cls := hown
  have hA : ∀ x : Nat, s.heap.size ≤ x → lwA s x := fun _ h => h
  have hbA : ¬ lwA s b := Nat.not_le.mpr hbl
  have hP : va_P (dC, dI) vwCl [(q 0, .inr (5, [.ref (q 1), .ref (q 3), .ref (q 8), .ref (q 14), .ref (q 17)])), (q 1, .inr (2, [.ref (q 2), .int (nI ln)])), (q 2, .inl (cI, 28, .inl bf)), (q 3, .inr (0, [.ref (q 4), .ref (q 5), .ref (q 6), .ref (q 7), .int (nI n)])), (q 4, .inl (cJ, 20, .inr (.inl (gK G)))), (q 5, .inl (cI, 20, .inl (gF G))), (q 6, .inl (cI, 20, .inl (gD G))), (q 7, .inl (cI, 20, .inl (gC G))), (q 8, .inr (1, [.ref (q 9), .ref (q 10), .ref (q 11), .ref (q 12), .ref (q 13), .int (nI R.1.1)])), (q 9, .inl (cI, 190, .inl R.1.2.1)), (q 10, .inl (cJ, 190, .inr (.inl R.1.2.2.1))), (q 11, .inl (cJ, 190, .inr (.inl R.1.2.2.2.1))), (q 12, .inl (cJ, 190, .inr (.inl R.1.2.2.2.2))), (q 13, .inl (cI, 190, .inl R.2)), (q 14, .inr (3, [.ref (q 15), .ref (q 16), .int (nI k)])), (q 15, .inl (cI, 8, .inl lg)), (q 16, .inl (cI, 8, .inl lp)), (q 17, .inr (4, [.ref (q 18), .int (nI np)])), (q 18, .inl (cI, 16, .inl rd)), (a 0, .inr (6, [.int (nI ln), .ref (a 1), .int (nI n), .ref (a 2), .ref (a 3), .int (nI k), .ref (a 4), .ref (a 5), .int (nI np), .ref (a 6), .long M.1, .ref (a 7), .int M.2.1, .int M.2.2.1, .int M.2.2.2.1, .int M.2.2.2.2.1, .ref (a 8), .long M.2.2.2.2.2.1])), (a 1, .inl (cI, 28, .inl bf)), (a 2, .inl (cJ, 20, .inr (.inl (gK G)))), (a 3, .inl (cI, 60, .inl (ilv G))), (a 4, .inl (cI, 8, .inl lg)), (a 5, .inl (cI, 8, .inl lp)), (a 6, .inl (cI, 16, .inl rd)), (a 7, .inl (cI, 3, .inl M.2.2.2.2.2.2.1)), (a 8, .inl (cJ, 3, .inr (.inl M.2.2.2.2.2.2.2)))] H := hP
  have hD : va_D (lwA s) [(q 0, .inr (5, [.ref (q 1), .ref (q 3), .ref (q 8), .ref (q 14), .ref (q 17)])), (q 1, .inr (2, [.ref (q 2), .int (nI ln)])), (q 2, .inl (cI, 28, .inl bf)), (q 3, .inr (0, [.ref (q 4), .ref (q 5), .ref (q 6), .ref (q 7), .int (nI n)])), (q 4, .inl (cJ, 20, .inr (.inl (gK G)))), (q 5, .inl (cI, 20, .inl (gF G))), (q 6, .inl (cI, 20, .inl (gD G))), (q 7, .inl (cI, 20, .inl (gC G))), (q 8, .inr (1, [.ref (q 9), .ref (q 10), .ref (q 11), .ref (q 12), .ref (q 13), .int (nI R.1.1)])), (q 9, .inl (cI, 190, .inl R.1.2.1)), (q 10, .inl (cJ, 190, .inr (.inl R.1.2.2.1))), (q 11, .inl (cJ, 190, .inr (.inl R.1.2.2.2.1))), (q 12, .inl (cJ, 190, .inr (.inl R.1.2.2.2.2))), (q 13, .inl (cI, 190, .inl R.2)), (q 14, .inr (3, [.ref (q 15), .ref (q 16), .int (nI k)])), (q 15, .inl (cI, 8, .inl lg)), (q 16, .inl (cI, 8, .inl lp)), (q 17, .inr (4, [.ref (q 18), .int (nI np)])), (q 18, .inl (cI, 16, .inl rd)), (a 0, .inr (6, [.int (nI ln), .ref (a 1), .int (nI n), .ref (a 2), .ref (a 3), .int (nI k), .ref (a 4), .ref (a 5), .int (nI np), .ref (a 6), .long M.1, .ref (a 7), .int M.2.1, .int M.2.2.1, .int M.2.2.2.1, .int M.2.2.2.2.1, .ref (a 8), .long M.2.2.2.2.2.1])), (a 1, .inl (cI, 28, .inl bf)), (a 2, .inl (cJ, 20, .inr (.inl (gK G)))), (a 3, .inl (cI, 60, .inl (ilv G))), (a 4, .inl (cI, 8, .inl lg)), (a 5, .inl (cI, 8, .inl lp)), (a 6, .inl (cI, 16, .inl rd)), (a 7, .inl (cI, 3, .inl M.2.2.2.2.2.2.1)), (a 8, .inl (cJ, 3, .inr (.inl M.2.2.2.2.2.2.2)))] := hD
  refine lv_aload_n hx hb dL_law_326 rfl (lv_at hl 2 rfl) ?_
  refine lv_aload_n hx hb dL_law_327 rfl (lv_at hl 3 rfl) ?_
  refine lv_iload_n hx hb dL_law_328 rfl (lv_at hl 0 rfl) ?_
  refine lv_iconst (v := 1) hx hb dL_law_329 (by decide) ?_
  refine lv_iadd hx hb dL_law_330 ?_
  refine rw_topi (nI_add i 1) ?_
  refine va_sld hx hb hX hbl hbA hS (vp_in_nI (show i + 1 < L by omega) (by omega)) dL_law_331 ?_
  refine roVl (As := [.int (xs (nI (i + 1)).toNatClampNeg)]) (rest := []) (c_X5_abbe l dC dI cI cJ q G n hn (xs (nI (i + 1)).toNatClampNeg)) ⟨hx, hb, hml, hown, hts⟩ (cwV 1 hts gL_law_X5_abbe rfl rfl rfl (by decide +kernel) ⟨Nat.le_of_ble_eq_true rfl, Nat.le_of_ble_eq_true rfl⟩) (hP.sub [0, 3, 4, 5, 6, 7] rfl) hK hN (ci := 5) rfl rfl rfl hl.1 rfl (Nat.le_of_ble_eq_true rfl) dL_law_332 ⟨Nat.le_of_ble_eq_true rfl, Nat.le_of_ble_eq_true rfl⟩ (fun r hr0 => ?_)
  subst hr0
  refine lv_aload_n hx hb dL_law_335 rfl (lv_at hl 1 rfl) ?_
  refine lv_aload_n hx hb dL_law_336 rfl (lv_at hl 3 rfl) ?_
  refine lv_iload_n hx hb dL_law_337 rfl (lv_at hl 0 rfl) ?_
  refine lv_iconst (v := 1) hx hb dL_law_338 (by decide) ?_
  refine lv_iadd hx hb dL_law_339 ?_
  refine rw_topi (nI_add i 1) ?_
  refine va_sld hx hb hX hbl hbA hS (vp_in_nI (show i + 1 < L by omega) (by omega)) dL_law_340 ?_
  refine roVl (As := [.int (xs (nI (i + 1)).toNatClampNeg)]) (rest := [.long (sAbbe G n (xs (nI (i + 1)).toNatClampNeg))]) (c_X6_abbe l dC dI cI cJ a bf ln (by omega) G n (by omega) lg lp k (by omega) rd np (by omega) M hG hL hR (xs (nI (i + 1)).toNatClampNeg)) ⟨hx, hb, hml, hown, hts⟩ (cwV 1 hts gL_law_X6_abbe rfl rfl rfl (by decide +kernel) ⟨Nat.le_of_ble_eq_true rfl, Nat.le_of_ble_eq_true rfl⟩) (hP.sub [19, 20, 21, 22, 23, 24, 25, 26, 27] rfl) hK hN (ci := 6) rfl rfl rfl hl.1 rfl (Nat.le_of_ble_eq_true rfl) dL_law_341 ⟨Nat.le_of_ble_eq_true rfl, Nat.le_of_ble_eq_true rfl⟩ (fun r hr0 => ?_)
  subst hr0
  refine rl_ifeq (tgt := 1028) hx hb dL_law_344 dL_law_345 (by decide) (fun h344 => ?_) (fun h344 => ?_)
  · exact ih bf ln hln G n hn lg lp k hk rd np hp hG hL hpw hR R M H locs hP hD hS ls hl
  · exact absurd rfl h344
set_option maxHeartbeats 4000000 in
set_option maxRecDepth 100000 in
theorem law_350 (C0 : lw_At p s m meth c b L xs) (hLn : L ≤ 3584) (hK : va_K (dC, dI) vwCl (tyK cI cJ) s) (hN : NW s) {i : Nat} (hi : i + 7 ≤ L) (ih : LC p l e s m below meth c b dC dI cI cJ q a 1028 i) : LC p l e s m below meth c b dC dI cI cJ q a 350 i := by
  intro bf ln hln G n hn lg lp k hk rd np hp hG hL hpw hR R M H locs hP hD hS ls hl
  obtain ⟨hx, hb, hr, hml, hown, hts, hX, hbl, hlocks, hgv⟩ := C0
  have hts : ∀ w ∈ wsL_law, w.before #[Value.ref b] s = true := fun w h => hts w (wsL_law_in w h)
  have hown : s.vm.findClass RL = some m.cls := hown
  have hA : ∀ x : Nat, s.heap.size ≤ x → lwA s x := fun _ h => h
  have hbA : ¬ lwA s b := Nat.not_le.mpr hbl
  have hP : va_P (dC, dI) vwCl [(q 0, .inr (5, [.ref (q 1), .ref (q 3), .ref (q 8), .ref (q 14), .ref (q 17)])), (q 1, .inr (2, [.ref (q 2), .int (nI ln)])), (q 2, .inl (cI, 28, .inl bf)), (q 3, .inr (0, [.ref (q 4), .ref (q 5), .ref (q 6), .ref (q 7), .int (nI n)])), (q 4, .inl (cJ, 20, .inr (.inl (gK G)))), (q 5, .inl (cI, 20, .inl (gF G))), (q 6, .inl (cI, 20, .inl (gD G))), (q 7, .inl (cI, 20, .inl (gC G))), (q 8, .inr (1, [.ref (q 9), .ref (q 10), .ref (q 11), .ref (q 12), .ref (q 13), .int (nI R.1.1)])), (q 9, .inl (cI, 190, .inl R.1.2.1)), (q 10, .inl (cJ, 190, .inr (.inl R.1.2.2.1))), (q 11, .inl (cJ, 190, .inr (.inl R.1.2.2.2.1))), (q 12, .inl (cJ, 190, .inr (.inl R.1.2.2.2.2))), (q 13, .inl (cI, 190, .inl R.2)), (q 14, .inr (3, [.ref (q 15), .ref (q 16), .int (nI k)])), (q 15, .inl (cI, 8, .inl lg)), (q 16, .inl (cI, 8, .inl lp)), (q 17, .inr (4, [.ref (q 18), .int (nI np)])), (q 18, .inl (cI, 16, .inl rd)), (a 0, .inr (6, [.int (nI ln), .ref (a 1), .int (nI n), .ref (a 2), .ref (a 3), .int (nI k), .ref (a 4), .ref (a 5), .int (nI np), .ref (a 6), .long M.1, .ref (a 7), .int M.2.1, .int M.2.2.1, .int M.2.2.2.1, .int M.2.2.2.2.1, .ref (a 8), .long M.2.2.2.2.2.1])), (a 1, .inl (cI, 28, .inl bf)), (a 2, .inl (cJ, 20, .inr (.inl (gK G)))), (a 3, .inl (cI, 60, .inl (ilv G))), (a 4, .inl (cI, 8, .inl lg)), (a 5, .inl (cI, 8, .inl lp)), (a 6, .inl (cI, 16, .inl rd)), (a 7, .inl (cI, 3, .inl M.2.2.2.2.2.2.1)), (a 8, .inl (cJ, 3, .inr (.inl M.2.2.2.2.2.2.2)))] H := hP
  have hD : va_D (lwA s) [(q 0, .inr (5, [.ref (q 1), .ref (q 3), .ref (q 8), .ref (q 14), .ref (q 17)])), (q 1, .inr (2, [.ref (q 2), .int (nI ln)])), (q 2, .inl (cI, 28, .inl bf)), (q 3, .inr (0, [.ref (q 4), .ref (q 5), .ref (q 6), .ref (q 7), .int (nI n)])), (q 4, .inl (cJ, 20, .inr (.inl (gK G)))), (q 5, .inl (cI, 20, .inl (gF G))), (q 6, .inl (cI, 20, .inl (gD G))), (q 7, .inl (cI, 20, .inl (gC G))), (q 8, .inr (1, [.ref (q 9), .ref (q 10), .ref (q 11), .ref (q 12), .ref (q 13), .int (nI R.1.1)])), (q 9, .inl (cI, 190, .inl R.1.2.1)), (q 10, .inl (cJ, 190, .inr (.inl R.1.2.2.1))), (q 11, .inl (cJ, 190, .inr (.inl R.1.2.2.2.1))), (q 12, .inl (cJ, 190, .inr (.inl R.1.2.2.2.2))), (q 13, .inl (cI, 190, .inl R.2)), (q 14, .inr (3, [.ref (q 15), .ref (q 16), .int (nI k)])), (q 15, .inl (cI, 8, .inl lg)), (q 16, .inl (cI, 8, .inl lp)), (q 17, .inr (4, [.ref (q 18), .int (nI np)])), (q 18, .inl (cI, 16, .inl rd)), (a 0, .inr (6, [.int (nI ln), .ref (a 1), .int (nI n), .ref (a 2), .ref (a 3), .int (nI k), .ref (a 4), .ref (a 5), .int (nI np), .ref (a 6), .long M.1, .ref (a 7), .int M.2.1, .int M.2.2.1, .int M.2.2.2.1, .int M.2.2.2.2.1, .ref (a 8), .long M.2.2.2.2.2.1])), (a 1, .inl (cI, 28, .inl bf)), (a 2, .inl (cJ, 20, .inr (.inl (gK G)))), (a 3, .inl (cI, 60, .inl (ilv G))), (a 4, .inl (cI, 8, .inl lg)), (a 5, .inl (cI, 8, .inl lp)), (a 6, .inl (cI, 16, .inl rd)), (a 7, .inl (cI, 3, .inl M.2.2.2.2.2.2.1)), (a 8, .inl (cJ, 3, .inr (.inl M.2.2.2.2.2.2.2)))] := hD
  refine lv_aload_n hx hb dL_law_350 rfl (lv_at hl 2 rfl) ?_
  refine lv_aload_n hx hb dL_law_351 rfl (lv_at hl 3 rfl) ?_
  refine lv_iload_n hx hb dL_law_352 rfl (lv_at hl 0 rfl) ?_
  refine lv_iconst (v := 1) hx hb dL_law_353 (by decide) ?_
  refine lv_iadd hx hb dL_law_354 ?_
  refine rw_topi (nI_add i 1) ?_
  refine va_sld hx hb hX hbl hbA hS (vp_in_nI (show i + 1 < L by omega) (by omega)) dL_law_355 ?_
  refine roVl (As := [.int (xs (nI (i + 1)).toNatClampNeg)]) (rest := []) (c_X5_partial l dC dI cI cJ q G n hn (xs (nI (i + 1)).toNatClampNeg)) ⟨hx, hb, hml, hown, hts⟩ (cwV 1 hts gL_law_X5_partial rfl rfl rfl (by decide +kernel) ⟨Nat.le_of_ble_eq_true rfl, Nat.le_of_ble_eq_true rfl⟩) (hP.sub [0, 3, 4, 5, 6, 7] rfl) hK hN (ci := 5) rfl rfl rfl hl.1 rfl (Nat.le_of_ble_eq_true rfl) dL_law_356 ⟨Nat.le_of_ble_eq_true rfl, Nat.le_of_ble_eq_true rfl⟩ (fun r hr0 => ?_)
  subst hr0
  refine lv_aload_n hx hb dL_law_359 rfl (lv_at hl 1 rfl) ?_
  refine lv_aload_n hx hb dL_law_360 rfl (lv_at hl 3 rfl) ?_
  refine lv_iload_n hx hb dL_law_361 rfl (lv_at hl 0 rfl) ?_
  refine lv_iconst (v := 1) hx hb dL_law_362 (by decide) ?_
  refine lv_iadd hx hb dL_law_363 ?_
  refine rw_topi (nI_add i 1) ?_
  refine va_sld hx hb hX hbl hbA hS (vp_in_nI (show i + 1 < L by omega) (by omega)) dL_law_364 ?_
  refine roVl (As := [.int (xs (nI (i + 1)).toNatClampNeg)]) (rest := [.long (sPart G n (xs (nI (i + 1)).toNatClampNeg))]) (c_X6_partial l dC dI cI cJ a bf ln (by omega) G n (by omega) lg lp k (by omega) rd np (by omega) M hG hL hR (xs (nI (i + 1)).toNatClampNeg)) ⟨hx, hb, hml, hown, hts⟩ (cwV 1 hts gL_law_X6_partial rfl rfl rfl (by decide +kernel) ⟨Nat.le_of_ble_eq_true rfl, Nat.le_of_ble_eq_true rfl⟩) (hP.sub [19, 20, 21, 22, 23, 24, 25, 26, 27] rfl) hK hN (ci := 6) rfl rfl rfl hl.1 rfl (Nat.le_of_ble_eq_true rfl) dL_law_365 ⟨Nat.le_of_ble_eq_true rfl, Nat.le_of_ble_eq_true rfl⟩ (fun r hr0 => ?_)
  subst hr0
  refine rl_ifeq (tgt := 1028) hx hb dL_law_368 dL_law_369 (by decide) (fun h368 => ?_) (fun h368 => ?_)
  · exact ih bf ln hln G n hn lg lp k hk rd np hp hG hL hpw hR R M H locs hP hD hS ls hl
  · exact absurd rfl h368
set_option maxHeartbeats 4000000 in
set_option maxRecDepth 100000 in
theorem law_374 (C0 : lw_At p s m meth c b L xs) (hLn : L ≤ 3584) (hK : va_K (dC, dI) vwCl (tyK cI cJ) s) (hN : NW s) {i : Nat} (hi : i + 7 ≤ L) (ih : LC p l e s m below meth c b dC dI cI cJ q a 1028 i) : LC p l e s m below meth c b dC dI cI cJ q a 374 i := by
  intro bf ln hln G n hn lg lp k hk rd np hp hG hL hpw hR R M H locs hP hD hS ls hl
  obtain ⟨hx, hb, hr, hml, hown, hts, hX, hbl, hlocks, hgv⟩ := C0
  have hts : ∀ w ∈ wsL_law, w.before #[Value.ref b] s = true := fun w h => hts w (wsL_law_in w h)
  have hown : s.vm.findClass RL = some m.cls := hown
  have hA : ∀ x : Nat, s.heap.size ≤ x → lwA s x := fun _ h => h
  have hbA : ¬ lwA s b := Nat.not_le.mpr hbl
  have hP : va_P (dC, dI) vwCl [(q 0, .inr (5, [.ref (q 1), .ref (q 3), .ref (q 8), .ref (q 14), .ref (q 17)])), (q 1, .inr (2, [.ref (q 2), .int (nI ln)])), (q 2, .inl (cI, 28, .inl bf)), (q 3, .inr (0, [.ref (q 4), .ref (q 5), .ref (q 6), .ref (q 7), .int (nI n)])), (q 4, .inl (cJ, 20, .inr (.inl (gK G)))), (q 5, .inl (cI, 20, .inl (gF G))), (q 6, .inl (cI, 20, .inl (gD G))), (q 7, .inl (cI, 20, .inl (gC G))), (q 8, .inr (1, [.ref (q 9), .ref (q 10), .ref (q 11), .ref (q 12), .ref (q 13), .int (nI R.1.1)])), (q 9, .inl (cI, 190, .inl R.1.2.1)), (q 10, .inl (cJ, 190, .inr (.inl R.1.2.2.1))), (q 11, .inl (cJ, 190, .inr (.inl R.1.2.2.2.1))), (q 12, .inl (cJ, 190, .inr (.inl R.1.2.2.2.2))), (q 13, .inl (cI, 190, .inl R.2)), (q 14, .inr (3, [.ref (q 15), .ref (q 16), .int (nI k)])), (q 15, .inl (cI, 8, .inl lg)), (q 16, .inl (cI, 8, .inl lp)), (q 17, .inr (4, [.ref (q 18), .int (nI np)])), (q 18, .inl (cI, 16, .inl rd)), (a 0, .inr (6, [.int (nI ln), .ref (a 1), .int (nI n), .ref (a 2), .ref (a 3), .int (nI k), .ref (a 4), .ref (a 5), .int (nI np), .ref (a 6), .long M.1, .ref (a 7), .int M.2.1, .int M.2.2.1, .int M.2.2.2.1, .int M.2.2.2.2.1, .ref (a 8), .long M.2.2.2.2.2.1])), (a 1, .inl (cI, 28, .inl bf)), (a 2, .inl (cJ, 20, .inr (.inl (gK G)))), (a 3, .inl (cI, 60, .inl (ilv G))), (a 4, .inl (cI, 8, .inl lg)), (a 5, .inl (cI, 8, .inl lp)), (a 6, .inl (cI, 16, .inl rd)), (a 7, .inl (cI, 3, .inl M.2.2.2.2.2.2.1)), (a 8, .inl (cJ, 3, .inr (.inl M.2.2.2.2.2.2.2)))] H := hP
  have hD : va_D (lwA s) [(q 0, .inr (5, [.ref (q 1), .ref (q 3), .ref (q 8), .ref (q 14), .ref (q 17)])), (q 1, .inr (2, [.ref (q 2), .int (nI ln)])), (q 2, .inl (cI, 28, .inl bf)), (q 3, .inr (0, [.ref (q 4), .ref (q 5), .ref (q 6), .ref (q 7), .int (nI n)])), (q 4, .inl (cJ, 20, .inr (.inl (gK G)))), (q 5, .inl (cI, 20, .inl (gF G))), (q 6, .inl (cI, 20, .inl (gD G))), (q 7, .inl (cI, 20, .inl (gC G))), (q 8, .inr (1, [.ref (q 9), .ref (q 10), .ref (q 11), .ref (q 12), .ref (q 13), .int (nI R.1.1)])), (q 9, .inl (cI, 190, .inl R.1.2.1)), (q 10, .inl (cJ, 190, .inr (.inl R.1.2.2.1))), (q 11, .inl (cJ, 190, .inr (.inl R.1.2.2.2.1))), (q 12, .inl (cJ, 190, .inr (.inl R.1.2.2.2.2))), (q 13, .inl (cI, 190, .inl R.2)), (q 14, .inr (3, [.ref (q 15), .ref (q 16), .int (nI k)])), (q 15, .inl (cI, 8, .inl lg)), (q 16, .inl (cI, 8, .inl lp)), (q 17, .inr (4, [.ref (q 18), .int (nI np)])), (q 18, .inl (cI, 16, .inl rd)), (a 0, .inr (6, [.int (nI ln), .ref (a 1), .int (nI n), .ref (a 2), .ref (a 3), .int (nI k), .ref (a 4), .ref (a 5), .int (nI np), .ref (a 6), .long M.1, .ref (a 7), .int M.2.1, .int M.2.2.1, .int M.2.2.2.1, .int M.2.2.2.2.1, .ref (a 8), .long M.2.2.2.2.2.1])), (a 1, .inl (cI, 28, .inl bf)), (a 2, .inl (cJ, 20, .inr (.inl (gK G)))), (a 3, .inl (cI, 60, .inl (ilv G))), (a 4, .inl (cI, 8, .inl lg)), (a 5, .inl (cI, 8, .inl lp)), (a 6, .inl (cI, 16, .inl rd)), (a 7, .inl (cI, 3, .inl M.2.2.2.2.2.2.1)), (a 8, .inl (cJ, 3, .inr (.inl M.2.2.2.2.2.2.2)))] := hD
  refine lv_aload_n hx hb dL_law_374 rfl (lv_at hl 2 rfl) ?_
  refine lv_aload_n hx hb dL_law_375 rfl (lv_at hl 3 rfl) ?_
  refine lv_iload_n hx hb dL_law_376 rfl (lv_at hl 0 rfl) ?_
  refine lv_iconst (v := 1) hx hb dL_law_377 (by decide) ?_
  refine lv_iadd hx hb dL_law_378 ?_
  refine rw_topi (nI_add i 1) ?_
  refine va_sld hx hb hX hbl hbA hS (vp_in_nI (show i + 1 < L by omega) (by omega)) dL_law_379 ?_
  refine roVl (As := [.int (xs (nI (i + 1)).toNatClampNeg)]) (rest := []) (c_X5_glassWithAbbe l dC dI cI cJ q G n hn (xs (nI (i + 1)).toNatClampNeg)) ⟨hx, hb, hml, hown, hts⟩ (cwV 1 hts gL_law_X5_glassWithAbbe rfl rfl rfl (by decide +kernel) ⟨Nat.le_of_ble_eq_true rfl, Nat.le_of_ble_eq_true rfl⟩) (hP.sub [0, 3, 4, 5, 6, 7] rfl) hK hN (ci := 5) rfl rfl rfl hl.1 rfl (Nat.le_of_ble_eq_true rfl) dL_law_380 ⟨Nat.le_of_ble_eq_true rfl, Nat.le_of_ble_eq_true rfl⟩ (fun r hr0 => ?_)
  subst hr0
  refine lv_aload_n hx hb dL_law_383 rfl (lv_at hl 1 rfl) ?_
  refine lv_aload_n hx hb dL_law_384 rfl (lv_at hl 3 rfl) ?_
  refine lv_iload_n hx hb dL_law_385 rfl (lv_at hl 0 rfl) ?_
  refine lv_iconst (v := 1) hx hb dL_law_386 (by decide) ?_
  refine lv_iadd hx hb dL_law_387 ?_
  refine rw_topi (nI_add i 1) ?_
  refine va_sld hx hb hX hbl hbA hS (vp_in_nI (show i + 1 < L by omega) (by omega)) dL_law_388 ?_
  refine roVl (As := [.int (xs (nI (i + 1)).toNatClampNeg)]) (rest := [.long (sWith G n (xs (nI (i + 1)).toNatClampNeg))]) (c_X6_glassWithAbbe l dC dI cI cJ a bf ln (by omega) G n (by omega) lg lp k (by omega) rd np (by omega) M hG hL hR (xs (nI (i + 1)).toNatClampNeg)) ⟨hx, hb, hml, hown, hts⟩ (cwV 1 hts gL_law_X6_glassWithAbbe rfl rfl rfl (by decide +kernel) ⟨Nat.le_of_ble_eq_true rfl, Nat.le_of_ble_eq_true rfl⟩) (hP.sub [19, 20, 21, 22, 23, 24, 25, 26, 27] rfl) hK hN (ci := 6) rfl rfl rfl hl.1 rfl (Nat.le_of_ble_eq_true rfl) dL_law_389 ⟨Nat.le_of_ble_eq_true rfl, Nat.le_of_ble_eq_true rfl⟩ (fun r hr0 => ?_)
  subst hr0
  refine rl_ifeq (tgt := 1028) hx hb dL_law_392 dL_law_393 (by decide) (fun h392 => ?_) (fun h392 => ?_)
  · exact ih bf ln hln G n hn lg lp k hk rd np hp hG hL hpw hR R M H locs hP hD hS ls hl
  · exact absurd rfl h392
set_option maxHeartbeats 4000000 in
set_option maxRecDepth 100000 in
theorem law_398 (C0 : lw_At p s m meth c b L xs) (hLn : L ≤ 3584) (hK : va_K (dC, dI) vwCl (tyK cI cJ) s) (hN : NW s) {i : Nat} (hi : i + 7 ≤ L) (ih : LC p l e s m below meth c b dC dI cI cJ q a 1028 i) : LC p l e s m below meth c b dC dI cI cJ q a 398 i := by
  intro bf ln hln G n hn lg lp k hk rd np hp hG hL hpw hR R M H locs hP hD hS ls hl
  obtain ⟨hx, hb, hr, hml, hown, hts, hX, hbl, hlocks, hgv⟩ := C0
  have hts : ∀ w ∈ wsL_law, w.before #[Value.ref b] s = true := fun w h => hts w (wsL_law_in w h)
  have hown : s.vm.findClass RL = some m.cls := hown
  have hA : ∀ x : Nat, s.heap.size ≤ x → lwA s x := fun _ h => h
  have hbA : ¬ lwA s b := Nat.not_le.mpr hbl
  have hP : va_P (dC, dI) vwCl [(q 0, .inr (5, [.ref (q 1), .ref (q 3), .ref (q 8), .ref (q 14), .ref (q 17)])), (q 1, .inr (2, [.ref (q 2), .int (nI ln)])), (q 2, .inl (cI, 28, .inl bf)), (q 3, .inr (0, [.ref (q 4), .ref (q 5), .ref (q 6), .ref (q 7), .int (nI n)])), (q 4, .inl (cJ, 20, .inr (.inl (gK G)))), (q 5, .inl (cI, 20, .inl (gF G))), (q 6, .inl (cI, 20, .inl (gD G))), (q 7, .inl (cI, 20, .inl (gC G))), (q 8, .inr (1, [.ref (q 9), .ref (q 10), .ref (q 11), .ref (q 12), .ref (q 13), .int (nI R.1.1)])), (q 9, .inl (cI, 190, .inl R.1.2.1)), (q 10, .inl (cJ, 190, .inr (.inl R.1.2.2.1))), (q 11, .inl (cJ, 190, .inr (.inl R.1.2.2.2.1))), (q 12, .inl (cJ, 190, .inr (.inl R.1.2.2.2.2))), (q 13, .inl (cI, 190, .inl R.2)), (q 14, .inr (3, [.ref (q 15), .ref (q 16), .int (nI k)])), (q 15, .inl (cI, 8, .inl lg)), (q 16, .inl (cI, 8, .inl lp)), (q 17, .inr (4, [.ref (q 18), .int (nI np)])), (q 18, .inl (cI, 16, .inl rd)), (a 0, .inr (6, [.int (nI ln), .ref (a 1), .int (nI n), .ref (a 2), .ref (a 3), .int (nI k), .ref (a 4), .ref (a 5), .int (nI np), .ref (a 6), .long M.1, .ref (a 7), .int M.2.1, .int M.2.2.1, .int M.2.2.2.1, .int M.2.2.2.2.1, .ref (a 8), .long M.2.2.2.2.2.1])), (a 1, .inl (cI, 28, .inl bf)), (a 2, .inl (cJ, 20, .inr (.inl (gK G)))), (a 3, .inl (cI, 60, .inl (ilv G))), (a 4, .inl (cI, 8, .inl lg)), (a 5, .inl (cI, 8, .inl lp)), (a 6, .inl (cI, 16, .inl rd)), (a 7, .inl (cI, 3, .inl M.2.2.2.2.2.2.1)), (a 8, .inl (cJ, 3, .inr (.inl M.2.2.2.2.2.2.2)))] H := hP
  have hD : va_D (lwA s) [(q 0, .inr (5, [.ref (q 1), .ref (q 3), .ref (q 8), .ref (q 14), .ref (q 17)])), (q 1, .inr (2, [.ref (q 2), .int (nI ln)])), (q 2, .inl (cI, 28, .inl bf)), (q 3, .inr (0, [.ref (q 4), .ref (q 5), .ref (q 6), .ref (q 7), .int (nI n)])), (q 4, .inl (cJ, 20, .inr (.inl (gK G)))), (q 5, .inl (cI, 20, .inl (gF G))), (q 6, .inl (cI, 20, .inl (gD G))), (q 7, .inl (cI, 20, .inl (gC G))), (q 8, .inr (1, [.ref (q 9), .ref (q 10), .ref (q 11), .ref (q 12), .ref (q 13), .int (nI R.1.1)])), (q 9, .inl (cI, 190, .inl R.1.2.1)), (q 10, .inl (cJ, 190, .inr (.inl R.1.2.2.1))), (q 11, .inl (cJ, 190, .inr (.inl R.1.2.2.2.1))), (q 12, .inl (cJ, 190, .inr (.inl R.1.2.2.2.2))), (q 13, .inl (cI, 190, .inl R.2)), (q 14, .inr (3, [.ref (q 15), .ref (q 16), .int (nI k)])), (q 15, .inl (cI, 8, .inl lg)), (q 16, .inl (cI, 8, .inl lp)), (q 17, .inr (4, [.ref (q 18), .int (nI np)])), (q 18, .inl (cI, 16, .inl rd)), (a 0, .inr (6, [.int (nI ln), .ref (a 1), .int (nI n), .ref (a 2), .ref (a 3), .int (nI k), .ref (a 4), .ref (a 5), .int (nI np), .ref (a 6), .long M.1, .ref (a 7), .int M.2.1, .int M.2.2.1, .int M.2.2.2.1, .int M.2.2.2.2.1, .ref (a 8), .long M.2.2.2.2.2.1])), (a 1, .inl (cI, 28, .inl bf)), (a 2, .inl (cJ, 20, .inr (.inl (gK G)))), (a 3, .inl (cI, 60, .inl (ilv G))), (a 4, .inl (cI, 8, .inl lg)), (a 5, .inl (cI, 8, .inl lp)), (a 6, .inl (cI, 16, .inl rd)), (a 7, .inl (cI, 3, .inl M.2.2.2.2.2.2.1)), (a 8, .inl (cJ, 3, .inr (.inl M.2.2.2.2.2.2.2)))] := hD
  refine lv_aload_n hx hb dL_law_398 rfl (lv_at hl 2 rfl) ?_
  refine lv_aload_n hx hb dL_law_399 rfl (lv_at hl 3 rfl) ?_
  refine lv_iload_n hx hb dL_law_400 rfl (lv_at hl 0 rfl) ?_
  refine lv_iconst (v := 1) hx hb dL_law_401 (by decide) ?_
  refine lv_iadd hx hb dL_law_402 ?_
  refine rw_topi (nI_add i 1) ?_
  refine va_sld hx hb hX hbl hbA hS (vp_in_nI (show i + 1 < L by omega) (by omega)) dL_law_403 ?_
  refine lv_aload_n hx hb dL_law_404 rfl (lv_at hl 3 rfl) ?_
  refine lv_iload_n hx hb dL_law_405 rfl (lv_at hl 0 rfl) ?_
  refine lv_iconst (v := 2) hx hb dL_law_406 (by decide) ?_
  refine lv_iadd hx hb dL_law_407 ?_
  refine rw_topi (nI_add i 2) ?_
  refine va_sld hx hb hX hbl hbA hS (vp_in_nI (show i + 2 < L by omega) (by omega)) dL_law_408 ?_
  refine lv_aload_n hx hb dL_law_409 rfl (lv_at hl 3 rfl) ?_
  refine lv_iload_n hx hb dL_law_410 rfl (lv_at hl 0 rfl) ?_
  refine lv_iconst (v := 3) hx hb dL_law_411 (by decide) ?_
  refine lv_iadd hx hb dL_law_412 ?_
  refine rw_topi (nI_add i 3) ?_
  refine va_sld hx hb hX hbl hbA hS (vp_in_nI (show i + 3 < L by omega) (by omega)) dL_law_413 ?_
  refine lv_aload_n hx hb dL_law_414 rfl (lv_at hl 3 rfl) ?_
  refine lv_iload_n hx hb dL_law_415 rfl (lv_at hl 0 rfl) ?_
  refine lv_iconst (v := 4) hx hb dL_law_416 (by decide) ?_
  refine lv_iadd hx hb dL_law_417 ?_
  refine rw_topi (nI_add i 4) ?_
  refine va_sld hx hb hX hbl hbA hS (vp_in_nI (show i + 4 < L by omega) (by omega)) dL_law_418 ?_
  refine roVl (As := [.int (xs (nI (i + 1)).toNatClampNeg), .int (xs (nI (i + 2)).toNatClampNeg), .int (xs (nI (i + 3)).toNatClampNeg), .int (xs (nI (i + 4)).toNatClampNeg)]) (rest := []) (c_X5_doubletPower l dC dI cI cJ q G n hn (xs (nI (i + 1)).toNatClampNeg) (xs (nI (i + 2)).toNatClampNeg) (xs (nI (i + 3)).toNatClampNeg) (xs (nI (i + 4)).toNatClampNeg)) ⟨hx, hb, hml, hown, hts⟩ (cwV 4 hts gL_law_X5_doubletPower rfl rfl rfl (by decide +kernel) ⟨Nat.le_of_ble_eq_true rfl, Nat.le_of_ble_eq_true rfl⟩) (hP.sub [0, 3, 4, 5, 6, 7] rfl) hK hN (ci := 5) rfl rfl rfl hl.1 rfl (Nat.le_of_ble_eq_true rfl) dL_law_419 ⟨Nat.le_of_ble_eq_true rfl, Nat.le_of_ble_eq_true rfl⟩ (fun r hr0 => ?_)
  subst hr0
  refine lv_aload_n hx hb dL_law_422 rfl (lv_at hl 1 rfl) ?_
  refine lv_aload_n hx hb dL_law_423 rfl (lv_at hl 3 rfl) ?_
  refine lv_iload_n hx hb dL_law_424 rfl (lv_at hl 0 rfl) ?_
  refine lv_iconst (v := 1) hx hb dL_law_425 (by decide) ?_
  refine lv_iadd hx hb dL_law_426 ?_
  refine rw_topi (nI_add i 1) ?_
  refine va_sld hx hb hX hbl hbA hS (vp_in_nI (show i + 1 < L by omega) (by omega)) dL_law_427 ?_
  refine lv_aload_n hx hb dL_law_428 rfl (lv_at hl 3 rfl) ?_
  refine lv_iload_n hx hb dL_law_429 rfl (lv_at hl 0 rfl) ?_
  refine lv_iconst (v := 2) hx hb dL_law_430 (by decide) ?_
  refine lv_iadd hx hb dL_law_431 ?_
  refine rw_topi (nI_add i 2) ?_
  refine va_sld hx hb hX hbl hbA hS (vp_in_nI (show i + 2 < L by omega) (by omega)) dL_law_432 ?_
  refine lv_aload_n hx hb dL_law_433 rfl (lv_at hl 3 rfl) ?_
  refine lv_iload_n hx hb dL_law_434 rfl (lv_at hl 0 rfl) ?_
  refine lv_iconst (v := 3) hx hb dL_law_435 (by decide) ?_
  refine lv_iadd hx hb dL_law_436 ?_
  refine rw_topi (nI_add i 3) ?_
  refine va_sld hx hb hX hbl hbA hS (vp_in_nI (show i + 3 < L by omega) (by omega)) dL_law_437 ?_
  refine lv_aload_n hx hb dL_law_438 rfl (lv_at hl 3 rfl) ?_
  refine lv_iload_n hx hb dL_law_439 rfl (lv_at hl 0 rfl) ?_
  refine lv_iconst (v := 4) hx hb dL_law_440 (by decide) ?_
  refine lv_iadd hx hb dL_law_441 ?_
  refine rw_topi (nI_add i 4) ?_
  refine va_sld hx hb hX hbl hbA hS (vp_in_nI (show i + 4 < L by omega) (by omega)) dL_law_442 ?_
  refine roVl (As := [.int (xs (nI (i + 1)).toNatClampNeg), .int (xs (nI (i + 2)).toNatClampNeg), .int (xs (nI (i + 3)).toNatClampNeg), .int (xs (nI (i + 4)).toNatClampNeg)]) (rest := [.long (sDbl G n (xs (nI (i + 1)).toNatClampNeg) (xs (nI (i + 2)).toNatClampNeg) (xs (nI (i + 3)).toNatClampNeg) (xs (nI (i + 4)).toNatClampNeg))]) (c_X6_doubletPower l dC dI cI cJ a bf ln (by omega) G n (by omega) lg lp k (by omega) rd np (by omega) M hG hL hR (xs (nI (i + 1)).toNatClampNeg) (xs (nI (i + 2)).toNatClampNeg) (xs (nI (i + 3)).toNatClampNeg) (xs (nI (i + 4)).toNatClampNeg)) ⟨hx, hb, hml, hown, hts⟩ (cwV 4 hts gL_law_X6_doubletPower rfl rfl rfl (by decide +kernel) ⟨Nat.le_of_ble_eq_true rfl, Nat.le_of_ble_eq_true rfl⟩) (hP.sub [19, 20, 21, 22, 23, 24, 25, 26, 27] rfl) hK hN (ci := 6) rfl rfl rfl hl.1 rfl (Nat.le_of_ble_eq_true rfl) dL_law_443 ⟨Nat.le_of_ble_eq_true rfl, Nat.le_of_ble_eq_true rfl⟩ (fun r hr0 => ?_)
  subst hr0
  refine rl_ifeq (tgt := 1028) hx hb dL_law_446 dL_law_447 (by decide) (fun h446 => ?_) (fun h446 => ?_)
  · exact ih bf ln hln G n hn lg lp k hk rd np hp hG hL hpw hR R M H locs hP hD hS ls hl
  · exact absurd rfl h446
set_option maxHeartbeats 4000000 in
set_option maxRecDepth 100000 in
theorem law_452 (C0 : lw_At p s m meth c b L xs) (hLn : L ≤ 3584) (hK : va_K (dC, dI) vwCl (tyK cI cJ) s) (hN : NW s) {i : Nat} (hi : i + 7 ≤ L) (ih : LC p l e s m below meth c b dC dI cI cJ q a 1028 i) : LC p l e s m below meth c b dC dI cI cJ q a 452 i := by
  intro bf ln hln G n hn lg lp k hk rd np hp hG hL hpw hR R M H locs hP hD hS ls hl
  obtain ⟨hx, hb, hr, hml, hown, hts, hX, hbl, hlocks, hgv⟩ := C0
  have hts : ∀ w ∈ wsL_law, w.before #[Value.ref b] s = true := fun w h => hts w (wsL_law_in w h)
  have hown : s.vm.findClass RL = some m.cls := hown
  have hA : ∀ x : Nat, s.heap.size ≤ x → lwA s x := fun _ h => h
  have hbA : ¬ lwA s b := Nat.not_le.mpr hbl
  have hP : va_P (dC, dI) vwCl [(q 0, .inr (5, [.ref (q 1), .ref (q 3), .ref (q 8), .ref (q 14), .ref (q 17)])), (q 1, .inr (2, [.ref (q 2), .int (nI ln)])), (q 2, .inl (cI, 28, .inl bf)), (q 3, .inr (0, [.ref (q 4), .ref (q 5), .ref (q 6), .ref (q 7), .int (nI n)])), (q 4, .inl (cJ, 20, .inr (.inl (gK G)))), (q 5, .inl (cI, 20, .inl (gF G))), (q 6, .inl (cI, 20, .inl (gD G))), (q 7, .inl (cI, 20, .inl (gC G))), (q 8, .inr (1, [.ref (q 9), .ref (q 10), .ref (q 11), .ref (q 12), .ref (q 13), .int (nI R.1.1)])), (q 9, .inl (cI, 190, .inl R.1.2.1)), (q 10, .inl (cJ, 190, .inr (.inl R.1.2.2.1))), (q 11, .inl (cJ, 190, .inr (.inl R.1.2.2.2.1))), (q 12, .inl (cJ, 190, .inr (.inl R.1.2.2.2.2))), (q 13, .inl (cI, 190, .inl R.2)), (q 14, .inr (3, [.ref (q 15), .ref (q 16), .int (nI k)])), (q 15, .inl (cI, 8, .inl lg)), (q 16, .inl (cI, 8, .inl lp)), (q 17, .inr (4, [.ref (q 18), .int (nI np)])), (q 18, .inl (cI, 16, .inl rd)), (a 0, .inr (6, [.int (nI ln), .ref (a 1), .int (nI n), .ref (a 2), .ref (a 3), .int (nI k), .ref (a 4), .ref (a 5), .int (nI np), .ref (a 6), .long M.1, .ref (a 7), .int M.2.1, .int M.2.2.1, .int M.2.2.2.1, .int M.2.2.2.2.1, .ref (a 8), .long M.2.2.2.2.2.1])), (a 1, .inl (cI, 28, .inl bf)), (a 2, .inl (cJ, 20, .inr (.inl (gK G)))), (a 3, .inl (cI, 60, .inl (ilv G))), (a 4, .inl (cI, 8, .inl lg)), (a 5, .inl (cI, 8, .inl lp)), (a 6, .inl (cI, 16, .inl rd)), (a 7, .inl (cI, 3, .inl M.2.2.2.2.2.2.1)), (a 8, .inl (cJ, 3, .inr (.inl M.2.2.2.2.2.2.2)))] H := hP
  have hD : va_D (lwA s) [(q 0, .inr (5, [.ref (q 1), .ref (q 3), .ref (q 8), .ref (q 14), .ref (q 17)])), (q 1, .inr (2, [.ref (q 2), .int (nI ln)])), (q 2, .inl (cI, 28, .inl bf)), (q 3, .inr (0, [.ref (q 4), .ref (q 5), .ref (q 6), .ref (q 7), .int (nI n)])), (q 4, .inl (cJ, 20, .inr (.inl (gK G)))), (q 5, .inl (cI, 20, .inl (gF G))), (q 6, .inl (cI, 20, .inl (gD G))), (q 7, .inl (cI, 20, .inl (gC G))), (q 8, .inr (1, [.ref (q 9), .ref (q 10), .ref (q 11), .ref (q 12), .ref (q 13), .int (nI R.1.1)])), (q 9, .inl (cI, 190, .inl R.1.2.1)), (q 10, .inl (cJ, 190, .inr (.inl R.1.2.2.1))), (q 11, .inl (cJ, 190, .inr (.inl R.1.2.2.2.1))), (q 12, .inl (cJ, 190, .inr (.inl R.1.2.2.2.2))), (q 13, .inl (cI, 190, .inl R.2)), (q 14, .inr (3, [.ref (q 15), .ref (q 16), .int (nI k)])), (q 15, .inl (cI, 8, .inl lg)), (q 16, .inl (cI, 8, .inl lp)), (q 17, .inr (4, [.ref (q 18), .int (nI np)])), (q 18, .inl (cI, 16, .inl rd)), (a 0, .inr (6, [.int (nI ln), .ref (a 1), .int (nI n), .ref (a 2), .ref (a 3), .int (nI k), .ref (a 4), .ref (a 5), .int (nI np), .ref (a 6), .long M.1, .ref (a 7), .int M.2.1, .int M.2.2.1, .int M.2.2.2.1, .int M.2.2.2.2.1, .ref (a 8), .long M.2.2.2.2.2.1])), (a 1, .inl (cI, 28, .inl bf)), (a 2, .inl (cJ, 20, .inr (.inl (gK G)))), (a 3, .inl (cI, 60, .inl (ilv G))), (a 4, .inl (cI, 8, .inl lg)), (a 5, .inl (cI, 8, .inl lp)), (a 6, .inl (cI, 16, .inl rd)), (a 7, .inl (cI, 3, .inl M.2.2.2.2.2.2.1)), (a 8, .inl (cJ, 3, .inr (.inl M.2.2.2.2.2.2.2)))] := hD
  refine lv_aload_n hx hb dL_law_452 rfl (lv_at hl 2 rfl) ?_
  refine lv_aload_n hx hb dL_law_453 rfl (lv_at hl 3 rfl) ?_
  refine lv_iload_n hx hb dL_law_454 rfl (lv_at hl 0 rfl) ?_
  refine lv_iconst (v := 1) hx hb dL_law_455 (by decide) ?_
  refine lv_iadd hx hb dL_law_456 ?_
  refine rw_topi (nI_add i 1) ?_
  refine va_sld hx hb hX hbl hbA hS (vp_in_nI (show i + 1 < L by omega) (by omega)) dL_law_457 ?_
  refine lv_aload_n hx hb dL_law_458 rfl (lv_at hl 3 rfl) ?_
  refine lv_iload_n hx hb dL_law_459 rfl (lv_at hl 0 rfl) ?_
  refine lv_iconst (v := 2) hx hb dL_law_460 (by decide) ?_
  refine lv_iadd hx hb dL_law_461 ?_
  refine rw_topi (nI_add i 2) ?_
  refine va_sld hx hb hX hbl hbA hS (vp_in_nI (show i + 2 < L by omega) (by omega)) dL_law_462 ?_
  refine lv_aload_n hx hb dL_law_463 rfl (lv_at hl 3 rfl) ?_
  refine lv_iload_n hx hb dL_law_464 rfl (lv_at hl 0 rfl) ?_
  refine lv_iconst (v := 3) hx hb dL_law_465 (by decide) ?_
  refine lv_iadd hx hb dL_law_466 ?_
  refine rw_topi (nI_add i 3) ?_
  refine va_sld hx hb hX hbl hbA hS (vp_in_nI (show i + 3 < L by omega) (by omega)) dL_law_467 ?_
  refine roVl (As := [.int (xs (nI (i + 1)).toNatClampNeg), .int (xs (nI (i + 2)).toNatClampNeg), .int (xs (nI (i + 3)).toNatClampNeg)]) (rest := []) (c_X5_secondarySpectrum l dC dI cI cJ q G n hn (xs (nI (i + 1)).toNatClampNeg) (xs (nI (i + 2)).toNatClampNeg) (xs (nI (i + 3)).toNatClampNeg)) ⟨hx, hb, hml, hown, hts⟩ (cwV 3 hts gL_law_X5_secondarySpectrum rfl rfl rfl (by decide +kernel) ⟨Nat.le_of_ble_eq_true rfl, Nat.le_of_ble_eq_true rfl⟩) (hP.sub [0, 3, 4, 5, 6, 7] rfl) hK hN (ci := 5) rfl rfl rfl hl.1 rfl (Nat.le_of_ble_eq_true rfl) dL_law_468 ⟨Nat.le_of_ble_eq_true rfl, Nat.le_of_ble_eq_true rfl⟩ (fun r hr0 => ?_)
  subst hr0
  refine lv_aload_n hx hb dL_law_471 rfl (lv_at hl 1 rfl) ?_
  refine lv_aload_n hx hb dL_law_472 rfl (lv_at hl 3 rfl) ?_
  refine lv_iload_n hx hb dL_law_473 rfl (lv_at hl 0 rfl) ?_
  refine lv_iconst (v := 1) hx hb dL_law_474 (by decide) ?_
  refine lv_iadd hx hb dL_law_475 ?_
  refine rw_topi (nI_add i 1) ?_
  refine va_sld hx hb hX hbl hbA hS (vp_in_nI (show i + 1 < L by omega) (by omega)) dL_law_476 ?_
  refine lv_aload_n hx hb dL_law_477 rfl (lv_at hl 3 rfl) ?_
  refine lv_iload_n hx hb dL_law_478 rfl (lv_at hl 0 rfl) ?_
  refine lv_iconst (v := 2) hx hb dL_law_479 (by decide) ?_
  refine lv_iadd hx hb dL_law_480 ?_
  refine rw_topi (nI_add i 2) ?_
  refine va_sld hx hb hX hbl hbA hS (vp_in_nI (show i + 2 < L by omega) (by omega)) dL_law_481 ?_
  refine lv_aload_n hx hb dL_law_482 rfl (lv_at hl 3 rfl) ?_
  refine lv_iload_n hx hb dL_law_483 rfl (lv_at hl 0 rfl) ?_
  refine lv_iconst (v := 3) hx hb dL_law_484 (by decide) ?_
  refine lv_iadd hx hb dL_law_485 ?_
  refine rw_topi (nI_add i 3) ?_
  refine va_sld hx hb hX hbl hbA hS (vp_in_nI (show i + 3 < L by omega) (by omega)) dL_law_486 ?_
  refine roVl (As := [.int (xs (nI (i + 1)).toNatClampNeg), .int (xs (nI (i + 2)).toNatClampNeg), .int (xs (nI (i + 3)).toNatClampNeg)]) (rest := [.long (sSec G n (xs (nI (i + 1)).toNatClampNeg) (xs (nI (i + 2)).toNatClampNeg) (xs (nI (i + 3)).toNatClampNeg))]) (c_X6_secondarySpectrum l dC dI cI cJ a bf ln (by omega) G n (by omega) lg lp k (by omega) rd np (by omega) M hG hL hR (xs (nI (i + 1)).toNatClampNeg) (xs (nI (i + 2)).toNatClampNeg) (xs (nI (i + 3)).toNatClampNeg)) ⟨hx, hb, hml, hown, hts⟩ (cwV 3 hts gL_law_X6_secondarySpectrum rfl rfl rfl (by decide +kernel) ⟨Nat.le_of_ble_eq_true rfl, Nat.le_of_ble_eq_true rfl⟩) (hP.sub [19, 20, 21, 22, 23, 24, 25, 26, 27] rfl) hK hN (ci := 6) rfl rfl rfl hl.1 rfl (Nat.le_of_ble_eq_true rfl) dL_law_487 ⟨Nat.le_of_ble_eq_true rfl, Nat.le_of_ble_eq_true rfl⟩ (fun r hr0 => ?_)
  subst hr0
  refine rl_ifeq (tgt := 1028) hx hb dL_law_490 dL_law_491 (by decide) (fun h490 => ?_) (fun h490 => ?_)
  · exact ih bf ln hln G n hn lg lp k hk rd np hp hG hL hpw hR R M H locs hP hD hS ls hl
  · exact absurd rfl h490
set_option maxHeartbeats 4000000 in
set_option maxRecDepth 100000 in
theorem law_496 (C0 : lw_At p s m meth c b L xs) (hLn : L ≤ 3584) (hK : va_K (dC, dI) vwCl (tyK cI cJ) s) (hN : NW s) {i : Nat} (hi : i + 7 ≤ L) (ih : LC p l e s m below meth c b dC dI cI cJ q a 1028 i) : LC p l e s m below meth c b dC dI cI cJ q a 496 i := by
  intro bf ln hln G n hn lg lp k hk rd np hp hG hL hpw hR R M H locs hP hD hS ls hl
  obtain ⟨hx, hb, hr, hml, hown, hts, hX, hbl, hlocks, hgv⟩ := C0
  have hts : ∀ w ∈ wsL_law, w.before #[Value.ref b] s = true := fun w h => hts w (wsL_law_in w h)
  have hown : s.vm.findClass RL = some m.cls := hown
  have hA : ∀ x : Nat, s.heap.size ≤ x → lwA s x := fun _ h => h
  have hbA : ¬ lwA s b := Nat.not_le.mpr hbl
  have hP : va_P (dC, dI) vwCl [(q 0, .inr (5, [.ref (q 1), .ref (q 3), .ref (q 8), .ref (q 14), .ref (q 17)])), (q 1, .inr (2, [.ref (q 2), .int (nI ln)])), (q 2, .inl (cI, 28, .inl bf)), (q 3, .inr (0, [.ref (q 4), .ref (q 5), .ref (q 6), .ref (q 7), .int (nI n)])), (q 4, .inl (cJ, 20, .inr (.inl (gK G)))), (q 5, .inl (cI, 20, .inl (gF G))), (q 6, .inl (cI, 20, .inl (gD G))), (q 7, .inl (cI, 20, .inl (gC G))), (q 8, .inr (1, [.ref (q 9), .ref (q 10), .ref (q 11), .ref (q 12), .ref (q 13), .int (nI R.1.1)])), (q 9, .inl (cI, 190, .inl R.1.2.1)), (q 10, .inl (cJ, 190, .inr (.inl R.1.2.2.1))), (q 11, .inl (cJ, 190, .inr (.inl R.1.2.2.2.1))), (q 12, .inl (cJ, 190, .inr (.inl R.1.2.2.2.2))), (q 13, .inl (cI, 190, .inl R.2)), (q 14, .inr (3, [.ref (q 15), .ref (q 16), .int (nI k)])), (q 15, .inl (cI, 8, .inl lg)), (q 16, .inl (cI, 8, .inl lp)), (q 17, .inr (4, [.ref (q 18), .int (nI np)])), (q 18, .inl (cI, 16, .inl rd)), (a 0, .inr (6, [.int (nI ln), .ref (a 1), .int (nI n), .ref (a 2), .ref (a 3), .int (nI k), .ref (a 4), .ref (a 5), .int (nI np), .ref (a 6), .long M.1, .ref (a 7), .int M.2.1, .int M.2.2.1, .int M.2.2.2.1, .int M.2.2.2.2.1, .ref (a 8), .long M.2.2.2.2.2.1])), (a 1, .inl (cI, 28, .inl bf)), (a 2, .inl (cJ, 20, .inr (.inl (gK G)))), (a 3, .inl (cI, 60, .inl (ilv G))), (a 4, .inl (cI, 8, .inl lg)), (a 5, .inl (cI, 8, .inl lp)), (a 6, .inl (cI, 16, .inl rd)), (a 7, .inl (cI, 3, .inl M.2.2.2.2.2.2.1)), (a 8, .inl (cJ, 3, .inr (.inl M.2.2.2.2.2.2.2)))] H := hP
  have hD : va_D (lwA s) [(q 0, .inr (5, [.ref (q 1), .ref (q 3), .ref (q 8), .ref (q 14), .ref (q 17)])), (q 1, .inr (2, [.ref (q 2), .int (nI ln)])), (q 2, .inl (cI, 28, .inl bf)), (q 3, .inr (0, [.ref (q 4), .ref (q 5), .ref (q 6), .ref (q 7), .int (nI n)])), (q 4, .inl (cJ, 20, .inr (.inl (gK G)))), (q 5, .inl (cI, 20, .inl (gF G))), (q 6, .inl (cI, 20, .inl (gD G))), (q 7, .inl (cI, 20, .inl (gC G))), (q 8, .inr (1, [.ref (q 9), .ref (q 10), .ref (q 11), .ref (q 12), .ref (q 13), .int (nI R.1.1)])), (q 9, .inl (cI, 190, .inl R.1.2.1)), (q 10, .inl (cJ, 190, .inr (.inl R.1.2.2.1))), (q 11, .inl (cJ, 190, .inr (.inl R.1.2.2.2.1))), (q 12, .inl (cJ, 190, .inr (.inl R.1.2.2.2.2))), (q 13, .inl (cI, 190, .inl R.2)), (q 14, .inr (3, [.ref (q 15), .ref (q 16), .int (nI k)])), (q 15, .inl (cI, 8, .inl lg)), (q 16, .inl (cI, 8, .inl lp)), (q 17, .inr (4, [.ref (q 18), .int (nI np)])), (q 18, .inl (cI, 16, .inl rd)), (a 0, .inr (6, [.int (nI ln), .ref (a 1), .int (nI n), .ref (a 2), .ref (a 3), .int (nI k), .ref (a 4), .ref (a 5), .int (nI np), .ref (a 6), .long M.1, .ref (a 7), .int M.2.1, .int M.2.2.1, .int M.2.2.2.1, .int M.2.2.2.2.1, .ref (a 8), .long M.2.2.2.2.2.1])), (a 1, .inl (cI, 28, .inl bf)), (a 2, .inl (cJ, 20, .inr (.inl (gK G)))), (a 3, .inl (cI, 60, .inl (ilv G))), (a 4, .inl (cI, 8, .inl lg)), (a 5, .inl (cI, 8, .inl lp)), (a 6, .inl (cI, 16, .inl rd)), (a 7, .inl (cI, 3, .inl M.2.2.2.2.2.2.1)), (a 8, .inl (cJ, 3, .inr (.inl M.2.2.2.2.2.2.2)))] := hD
  refine lv_aload_n hx hb dL_law_496 rfl (lv_at hl 2 rfl) ?_
  refine rjoin (nL := 4) 510 [(3, .int (nI i)), (2, .ref (a 0)), (1, .ref (q 0)), (0, .ref b)] [.int (if xs (nI (i + 1)).toNatClampNeg = 0 then 0 else 1), .ref (q 0)] (fun ls hl => ?_) (fun hj510 => ?_)
  · refine lv_aload_n hx hb dL_law_510 rfl (lv_at hl 3 rfl) ?_
    refine lv_iload_n hx hb dL_law_511 rfl (lv_at hl 0 rfl) ?_
    refine lv_iconst (v := 2) hx hb dL_law_512 (by decide) ?_
    refine lv_iadd hx hb dL_law_513 ?_
    refine rw_topi (nI_add i 2) ?_
    refine va_sld hx hb hX hbl hbA hS (vp_in_nI (show i + 2 < L by omega) (by omega)) dL_law_514 ?_
    refine muVl (As := [.int (if xs (nI (i + 1)).toNatClampNeg = 0 then 0 else 1), .int (xs (nI (i + 2)).toNatClampNeg)]) (rest := []) (wr := [(q 1, .inr (2, [.ref (q 2), .int (nI ln)])), (q 2, .inl (cI, 28, .inl bf)), (q 14, .inr (3, [.ref (q 15), .ref (q 16), .int (nI k)])), (q 15, .inl (cI, 8, .inl lg)), (q 16, .inl (cI, 8, .inl lp)), (q 17, .inr (4, [.ref (q 18), .int (nI np)])), (q 18, .inl (cI, 16, .inl rd)), (a 0, .inr (6, [.int (nI ln), .ref (a 1), .int (nI n), .ref (a 2), .ref (a 3), .int (nI k), .ref (a 4), .ref (a 5), .int (nI np), .ref (a 6), .long M.1, .ref (a 7), .int M.2.1, .int M.2.2.1, .int M.2.2.2.1, .int M.2.2.2.2.1, .ref (a 8), .long M.2.2.2.2.2.1])), (a 1, .inl (cI, 28, .inl bf)), (a 2, .inl (cJ, 20, .inr (.inl (gK G)))), (a 3, .inl (cI, 60, .inl (ilv G))), (a 4, .inl (cI, 8, .inl lg)), (a 5, .inl (cI, 8, .inl lp)), (a 6, .inl (cI, 16, .inl rd)), (a 7, .inl (cI, 3, .inl M.2.2.2.2.2.2.1)), (a 8, .inl (cJ, 3, .inr (.inl M.2.2.2.2.2.2.2)))]) (c_X5_doubletAt l dC dI cI cJ H.size q G n hn hG R.1.1 R.1.2.1 R.1.2.2.1 R.1.2.2.2.1 R.1.2.2.2.2 R.2 (if xs (nI (i + 1)).toNatClampNeg = 0 then 0 else 1) (xs (nI (i + 2)).toNatClampNeg)) ⟨hx, hb, hml, hown, hts⟩ (cwV 2 hts gL_law_X5_doubletAt rfl rfl rfl (by decide +kernel) ⟨Nat.le_of_ble_eq_true rfl, Nat.le_of_ble_eq_true rfl⟩) hP hD hS hA hK hN [0, 8, 9, 10, 11, 12, 13, 3, 4, 5, 6, 7] [1, 2, 14, 15, 16, 17, 18, 19, 20, 21, 22, 23, 24, 25, 26, 27] rfl rfl (by decide) rfl (by decide) (by decide) (ci := 5) rfl rfl rfl hl.1 rfl (Nat.le_of_ble_eq_true rfl) dL_law_515 ⟨Nat.le_of_ble_eq_true rfl, Nat.le_of_ble_eq_true rfl⟩ (fun r u5 H locs hr0 hP hD hS => ?_)
    have hP := hP.sub (ws' := [(q 0, .inr (5, [.ref (q 1), .ref (q 3), .ref (q 8), .ref (q 14), .ref (q 17)])), (q 1, .inr (2, [.ref (q 2), .int (nI ln)])), (q 2, .inl (cI, 28, .inl bf)), (q 3, .inr (0, [.ref (q 4), .ref (q 5), .ref (q 6), .ref (q 7), .int (nI n)])), (q 4, .inl (cJ, 20, .inr (.inl (gK G)))), (q 5, .inl (cI, 20, .inl (gF G))), (q 6, .inl (cI, 20, .inl (gD G))), (q 7, .inl (cI, 20, .inl (gC G))), (q 8, .inr (1, [.ref (q 9), .ref (q 10), .ref (q 11), .ref (q 12), .ref (q 13), .int (nI u5.1.1)])), (q 9, .inl (cI, 190, .inl u5.1.2.1)), (q 10, .inl (cJ, 190, .inr (.inl u5.1.2.2.1))), (q 11, .inl (cJ, 190, .inr (.inl u5.1.2.2.2.1))), (q 12, .inl (cJ, 190, .inr (.inl u5.1.2.2.2.2))), (q 13, .inl (cI, 190, .inl u5.2)), (q 14, .inr (3, [.ref (q 15), .ref (q 16), .int (nI k)])), (q 15, .inl (cI, 8, .inl lg)), (q 16, .inl (cI, 8, .inl lp)), (q 17, .inr (4, [.ref (q 18), .int (nI np)])), (q 18, .inl (cI, 16, .inl rd)), (a 0, .inr (6, [.int (nI ln), .ref (a 1), .int (nI n), .ref (a 2), .ref (a 3), .int (nI k), .ref (a 4), .ref (a 5), .int (nI np), .ref (a 6), .long M.1, .ref (a 7), .int M.2.1, .int M.2.2.1, .int M.2.2.2.1, .int M.2.2.2.2.1, .ref (a 8), .long M.2.2.2.2.2.1])), (a 1, .inl (cI, 28, .inl bf)), (a 2, .inl (cJ, 20, .inr (.inl (gK G)))), (a 3, .inl (cI, 60, .inl (ilv G))), (a 4, .inl (cI, 8, .inl lg)), (a 5, .inl (cI, 8, .inl lp)), (a 6, .inl (cI, 16, .inl rd)), (a 7, .inl (cI, 3, .inl M.2.2.2.2.2.2.1)), (a 8, .inl (cJ, 3, .inr (.inl M.2.2.2.2.2.2.2)))]) [16, 0, 1, 23, 24, 25, 26, 27, 17, 18, 19, 20, 21, 22, 2, 3, 4, 5, 6, 7, 8, 9, 10, 11, 12, 13, 14, 15] rfl
    have hD := hD.sub (ws' := [(q 0, .inr (5, [.ref (q 1), .ref (q 3), .ref (q 8), .ref (q 14), .ref (q 17)])), (q 1, .inr (2, [.ref (q 2), .int (nI ln)])), (q 2, .inl (cI, 28, .inl bf)), (q 3, .inr (0, [.ref (q 4), .ref (q 5), .ref (q 6), .ref (q 7), .int (nI n)])), (q 4, .inl (cJ, 20, .inr (.inl (gK G)))), (q 5, .inl (cI, 20, .inl (gF G))), (q 6, .inl (cI, 20, .inl (gD G))), (q 7, .inl (cI, 20, .inl (gC G))), (q 8, .inr (1, [.ref (q 9), .ref (q 10), .ref (q 11), .ref (q 12), .ref (q 13), .int (nI u5.1.1)])), (q 9, .inl (cI, 190, .inl u5.1.2.1)), (q 10, .inl (cJ, 190, .inr (.inl u5.1.2.2.1))), (q 11, .inl (cJ, 190, .inr (.inl u5.1.2.2.2.1))), (q 12, .inl (cJ, 190, .inr (.inl u5.1.2.2.2.2))), (q 13, .inl (cI, 190, .inl u5.2)), (q 14, .inr (3, [.ref (q 15), .ref (q 16), .int (nI k)])), (q 15, .inl (cI, 8, .inl lg)), (q 16, .inl (cI, 8, .inl lp)), (q 17, .inr (4, [.ref (q 18), .int (nI np)])), (q 18, .inl (cI, 16, .inl rd)), (a 0, .inr (6, [.int (nI ln), .ref (a 1), .int (nI n), .ref (a 2), .ref (a 3), .int (nI k), .ref (a 4), .ref (a 5), .int (nI np), .ref (a 6), .long M.1, .ref (a 7), .int M.2.1, .int M.2.2.1, .int M.2.2.2.1, .int M.2.2.2.2.1, .ref (a 8), .long M.2.2.2.2.2.1])), (a 1, .inl (cI, 28, .inl bf)), (a 2, .inl (cJ, 20, .inr (.inl (gK G)))), (a 3, .inl (cI, 60, .inl (ilv G))), (a 4, .inl (cI, 8, .inl lg)), (a 5, .inl (cI, 8, .inl lp)), (a 6, .inl (cI, 16, .inl rd)), (a 7, .inl (cI, 3, .inl M.2.2.2.2.2.2.1)), (a 8, .inl (cJ, 3, .inr (.inl M.2.2.2.2.2.2.2)))]) [16, 0, 1, 23, 24, 25, 26, 27, 17, 18, 19, 20, 21, 22, 2, 3, 4, 5, 6, 7, 8, 9, 10, 11, 12, 13, 14, 15] (by decide) rfl
    subst hr0
    refine lv_aload_n hx hb dL_law_518 rfl (lv_at hl 1 rfl) ?_
    refine rjoin (nL := 4) 532 [(3, .int (nI i)), (2, .ref (a 0)), (1, .ref (q 0)), (0, .ref b)] [.int (if xs (nI (i + 1)).toNatClampNeg = 0 then 0 else 1), .ref (a 0), .long (sDA G n (if xs (nI (i + 1)).toNatClampNeg = 0 then 0 else 1) (xs (nI (i + 2)).toNatClampNeg))] (fun ls hl => ?_) (fun hj532 => ?_)
    · refine lv_aload_n hx hb dL_law_532 rfl (lv_at hl 3 rfl) ?_
      refine lv_iload_n hx hb dL_law_533 rfl (lv_at hl 0 rfl) ?_
      refine lv_iconst (v := 2) hx hb dL_law_534 (by decide) ?_
      refine lv_iadd hx hb dL_law_535 ?_
      refine rw_topi (nI_add i 2) ?_
      refine va_sld hx hb hX hbl hbA hS (vp_in_nI (show i + 2 < L by omega) (by omega)) dL_law_536 ?_
      refine muVl (As := [.int (if xs (nI (i + 1)).toNatClampNeg = 0 then 0 else 1), .int (xs (nI (i + 2)).toNatClampNeg)]) (rest := [.long (sDA G n (if xs (nI (i + 1)).toNatClampNeg = 0 then 0 else 1) (xs (nI (i + 2)).toNatClampNeg))]) (wr := [(q 0, .inr (5, [.ref (q 1), .ref (q 3), .ref (q 8), .ref (q 14), .ref (q 17)])), (q 1, .inr (2, [.ref (q 2), .int (nI ln)])), (q 2, .inl (cI, 28, .inl bf)), (q 3, .inr (0, [.ref (q 4), .ref (q 5), .ref (q 6), .ref (q 7), .int (nI n)])), (q 4, .inl (cJ, 20, .inr (.inl (gK G)))), (q 5, .inl (cI, 20, .inl (gF G))), (q 6, .inl (cI, 20, .inl (gD G))), (q 7, .inl (cI, 20, .inl (gC G))), (q 8, .inr (1, [.ref (q 9), .ref (q 10), .ref (q 11), .ref (q 12), .ref (q 13), .int (nI u5.1.1)])), (q 9, .inl (cI, 190, .inl u5.1.2.1)), (q 10, .inl (cJ, 190, .inr (.inl u5.1.2.2.1))), (q 11, .inl (cJ, 190, .inr (.inl u5.1.2.2.2.1))), (q 12, .inl (cJ, 190, .inr (.inl u5.1.2.2.2.2))), (q 13, .inl (cI, 190, .inl u5.2)), (q 14, .inr (3, [.ref (q 15), .ref (q 16), .int (nI k)])), (q 15, .inl (cI, 8, .inl lg)), (q 16, .inl (cI, 8, .inl lp)), (q 17, .inr (4, [.ref (q 18), .int (nI np)])), (q 18, .inl (cI, 16, .inl rd))]) (c_X6_doubletAt l dC dI cI cJ H.size a bf ln (by omega) G n (by omega) lg lp k (by omega) rd np (by omega) M hG hL hR (if xs (nI (i + 1)).toNatClampNeg = 0 then 0 else 1) (xs (nI (i + 2)).toNatClampNeg)) ⟨hx, hb, hml, hown, hts⟩ (cwV 2 hts gL_law_X6_doubletAt rfl rfl rfl (by decide +kernel) ⟨Nat.le_of_ble_eq_true rfl, Nat.le_of_ble_eq_true rfl⟩) hP hD hS hA hK hN [19, 20, 21, 22, 23, 24, 25, 26, 27] [0, 1, 2, 3, 4, 5, 6, 7, 8, 9, 10, 11, 12, 13, 14, 15, 16, 17, 18] rfl rfl (by decide) rfl (by decide) (by decide) (ci := 6) rfl rfl rfl hl.1 rfl (Nat.le_of_ble_eq_true rfl) dL_law_537 ⟨Nat.le_of_ble_eq_true rfl, Nat.le_of_ble_eq_true rfl⟩ (fun r u6 H locs hr0 hP hD hS => ?_)
      have hP := hP.sub (ws' := [(q 0, .inr (5, [.ref (q 1), .ref (q 3), .ref (q 8), .ref (q 14), .ref (q 17)])), (q 1, .inr (2, [.ref (q 2), .int (nI ln)])), (q 2, .inl (cI, 28, .inl bf)), (q 3, .inr (0, [.ref (q 4), .ref (q 5), .ref (q 6), .ref (q 7), .int (nI n)])), (q 4, .inl (cJ, 20, .inr (.inl (gK G)))), (q 5, .inl (cI, 20, .inl (gF G))), (q 6, .inl (cI, 20, .inl (gD G))), (q 7, .inl (cI, 20, .inl (gC G))), (q 8, .inr (1, [.ref (q 9), .ref (q 10), .ref (q 11), .ref (q 12), .ref (q 13), .int (nI u5.1.1)])), (q 9, .inl (cI, 190, .inl u5.1.2.1)), (q 10, .inl (cJ, 190, .inr (.inl u5.1.2.2.1))), (q 11, .inl (cJ, 190, .inr (.inl u5.1.2.2.2.1))), (q 12, .inl (cJ, 190, .inr (.inl u5.1.2.2.2.2))), (q 13, .inl (cI, 190, .inl u5.2)), (q 14, .inr (3, [.ref (q 15), .ref (q 16), .int (nI k)])), (q 15, .inl (cI, 8, .inl lg)), (q 16, .inl (cI, 8, .inl lp)), (q 17, .inr (4, [.ref (q 18), .int (nI np)])), (q 18, .inl (cI, 16, .inl rd)), (a 0, .inr (6, [.int (nI ln), .ref (a 1), .int (nI n), .ref (a 2), .ref (a 3), .int (nI k), .ref (a 4), .ref (a 5), .int (nI np), .ref (a 6), .long u6.1, .ref (a 7), .int u6.2.1, .int u6.2.2.1, .int u6.2.2.2.1, .int u6.2.2.2.2.1, .ref (a 8), .long M.2.2.2.2.2.1])), (a 1, .inl (cI, 28, .inl bf)), (a 2, .inl (cJ, 20, .inr (.inl (gK G)))), (a 3, .inl (cI, 60, .inl (ilv G))), (a 4, .inl (cI, 8, .inl lg)), (a 5, .inl (cI, 8, .inl lp)), (a 6, .inl (cI, 16, .inl rd)), (a 7, .inl (cI, 3, .inl u6.2.2.2.2.2.2.1)), (a 8, .inl (cJ, 3, .inr (.inl u6.2.2.2.2.2.2.2)))]) [0, 1, 2, 3, 4, 5, 6, 7, 8, 9, 10, 11, 12, 13, 14, 15, 16, 17, 18, 19, 20, 21, 22, 23, 24, 25, 26, 27] rfl
      have hD := hD.sub (ws' := [(q 0, .inr (5, [.ref (q 1), .ref (q 3), .ref (q 8), .ref (q 14), .ref (q 17)])), (q 1, .inr (2, [.ref (q 2), .int (nI ln)])), (q 2, .inl (cI, 28, .inl bf)), (q 3, .inr (0, [.ref (q 4), .ref (q 5), .ref (q 6), .ref (q 7), .int (nI n)])), (q 4, .inl (cJ, 20, .inr (.inl (gK G)))), (q 5, .inl (cI, 20, .inl (gF G))), (q 6, .inl (cI, 20, .inl (gD G))), (q 7, .inl (cI, 20, .inl (gC G))), (q 8, .inr (1, [.ref (q 9), .ref (q 10), .ref (q 11), .ref (q 12), .ref (q 13), .int (nI u5.1.1)])), (q 9, .inl (cI, 190, .inl u5.1.2.1)), (q 10, .inl (cJ, 190, .inr (.inl u5.1.2.2.1))), (q 11, .inl (cJ, 190, .inr (.inl u5.1.2.2.2.1))), (q 12, .inl (cJ, 190, .inr (.inl u5.1.2.2.2.2))), (q 13, .inl (cI, 190, .inl u5.2)), (q 14, .inr (3, [.ref (q 15), .ref (q 16), .int (nI k)])), (q 15, .inl (cI, 8, .inl lg)), (q 16, .inl (cI, 8, .inl lp)), (q 17, .inr (4, [.ref (q 18), .int (nI np)])), (q 18, .inl (cI, 16, .inl rd)), (a 0, .inr (6, [.int (nI ln), .ref (a 1), .int (nI n), .ref (a 2), .ref (a 3), .int (nI k), .ref (a 4), .ref (a 5), .int (nI np), .ref (a 6), .long u6.1, .ref (a 7), .int u6.2.1, .int u6.2.2.1, .int u6.2.2.2.1, .int u6.2.2.2.2.1, .ref (a 8), .long M.2.2.2.2.2.1])), (a 1, .inl (cI, 28, .inl bf)), (a 2, .inl (cJ, 20, .inr (.inl (gK G)))), (a 3, .inl (cI, 60, .inl (ilv G))), (a 4, .inl (cI, 8, .inl lg)), (a 5, .inl (cI, 8, .inl lp)), (a 6, .inl (cI, 16, .inl rd)), (a 7, .inl (cI, 3, .inl u6.2.2.2.2.2.2.1)), (a 8, .inl (cJ, 3, .inr (.inl u6.2.2.2.2.2.2.2)))]) [0, 1, 2, 3, 4, 5, 6, 7, 8, 9, 10, 11, 12, 13, 14, 15, 16, 17, 18, 19, 20, 21, 22, 23, 24, 25, 26, 27] (by decide) rfl
      subst hr0
      refine rl_ifeq (tgt := 1028) hx hb dL_law_540 dL_law_541 (by decide) (fun h540 => ?_) (fun h540 => ?_)
      · exact ih bf ln hln G n hn lg lp k hk rd np hp hG hL hpw hR u5 (u6.1, u6.2.1, u6.2.2.1, u6.2.2.2.1, u6.2.2.2.2.1, M.2.2.2.2.2.1, u6.2.2.2.2.2.2.1, u6.2.2.2.2.2.2.2) H locs hP hD hS ls hl
      · exact absurd rfl h540
    · refine lv_aload_n hx hb dL_law_519 rfl (lv_at hl 3 rfl) ?_
      refine lv_iload_n hx hb dL_law_520 rfl (lv_at hl 0 rfl) ?_
      refine lv_iconst (v := 1) hx hb dL_law_521 (by decide) ?_
      refine lv_iadd hx hb dL_law_522 ?_
      refine rw_topi (nI_add i 1) ?_
      refine va_sld hx hb hX hbl hbA hS (vp_in_nI (show i + 1 < L by omega) (by omega)) dL_law_523 ?_
      refine lv_if_eq (tgt := 531) hx hb dL_law_524 (by decide) (fun h524 => ?_) (fun h524 => ?_)
      · refine lv_iconst (v := 0) hx hb dL_law_531 (by decide) ?_
        refine rw_topi (show (0 : Int32) = (if xs (nI (i + 1)).toNatClampNeg = 0 then 0 else 1 : Int32) from by first | rw [if_pos h524] | rw [if_neg h524]) ?_
        exact hj532 ls (lv_sub hl [0, 1, 2, 3] rfl)
      · refine lv_iconst (v := 1) hx hb dL_law_527 (by decide) ?_
        refine lv_goto (tgt := 532) hx hb dL_law_528 (by decide) ?_
        refine rw_topi (show (1 : Int32) = (if xs (nI (i + 1)).toNatClampNeg = 0 then 0 else 1 : Int32) from by first | rw [if_pos h524] | rw [if_neg h524]) ?_
        exact hj532 ls (lv_sub hl [0, 1, 2, 3] rfl)
  · refine lv_aload_n hx hb dL_law_497 rfl (lv_at hl 3 rfl) ?_
    refine lv_iload_n hx hb dL_law_498 rfl (lv_at hl 0 rfl) ?_
    refine lv_iconst (v := 1) hx hb dL_law_499 (by decide) ?_
    refine lv_iadd hx hb dL_law_500 ?_
    refine rw_topi (nI_add i 1) ?_
    refine va_sld hx hb hX hbl hbA hS (vp_in_nI (show i + 1 < L by omega) (by omega)) dL_law_501 ?_
    refine lv_if_eq (tgt := 509) hx hb dL_law_502 (by decide) (fun h502 => ?_) (fun h502 => ?_)
    · refine lv_iconst (v := 0) hx hb dL_law_509 (by decide) ?_
      refine rw_topi (show (0 : Int32) = (if xs (nI (i + 1)).toNatClampNeg = 0 then 0 else 1 : Int32) from by first | rw [if_pos h502] | rw [if_neg h502]) ?_
      exact hj510 ls (lv_sub hl [0, 1, 2, 3] rfl)
    · refine lv_iconst (v := 1) hx hb dL_law_505 (by decide) ?_
      refine lv_goto (tgt := 510) hx hb dL_law_506 (by decide) ?_
      refine rw_topi (show (1 : Int32) = (if xs (nI (i + 1)).toNatClampNeg = 0 then 0 else 1 : Int32) from by first | rw [if_pos h502] | rw [if_neg h502]) ?_
      exact hj510 ls (lv_sub hl [0, 1, 2, 3] rfl)
set_option maxHeartbeats 4000000 in
set_option maxRecDepth 100000 in
theorem law_546 (C0 : lw_At p s m meth c b L xs) (hLn : L ≤ 3584) (hK : va_K (dC, dI) vwCl (tyK cI cJ) s) (hN : NW s) {i : Nat} (hi : i + 7 ≤ L) (ih : LC p l e s m below meth c b dC dI cI cJ q a 1028 i) : LC p l e s m below meth c b dC dI cI cJ q a 546 i := by
  intro bf ln hln G n hn lg lp k hk rd np hp hG hL hpw hR R M H locs hP hD hS ls hl
  obtain ⟨hx, hb, hr, hml, hown, hts, hX, hbl, hlocks, hgv⟩ := C0
  have hts : ∀ w ∈ wsL_law, w.before #[Value.ref b] s = true := fun w h => hts w (wsL_law_in w h)
  have hown : s.vm.findClass RL = some m.cls := hown
  have hA : ∀ x : Nat, s.heap.size ≤ x → lwA s x := fun _ h => h
  have hbA : ¬ lwA s b := Nat.not_le.mpr hbl
  have hP : va_P (dC, dI) vwCl [(q 0, .inr (5, [.ref (q 1), .ref (q 3), .ref (q 8), .ref (q 14), .ref (q 17)])), (q 1, .inr (2, [.ref (q 2), .int (nI ln)])), (q 2, .inl (cI, 28, .inl bf)), (q 3, .inr (0, [.ref (q 4), .ref (q 5), .ref (q 6), .ref (q 7), .int (nI n)])), (q 4, .inl (cJ, 20, .inr (.inl (gK G)))), (q 5, .inl (cI, 20, .inl (gF G))), (q 6, .inl (cI, 20, .inl (gD G))), (q 7, .inl (cI, 20, .inl (gC G))), (q 8, .inr (1, [.ref (q 9), .ref (q 10), .ref (q 11), .ref (q 12), .ref (q 13), .int (nI R.1.1)])), (q 9, .inl (cI, 190, .inl R.1.2.1)), (q 10, .inl (cJ, 190, .inr (.inl R.1.2.2.1))), (q 11, .inl (cJ, 190, .inr (.inl R.1.2.2.2.1))), (q 12, .inl (cJ, 190, .inr (.inl R.1.2.2.2.2))), (q 13, .inl (cI, 190, .inl R.2)), (q 14, .inr (3, [.ref (q 15), .ref (q 16), .int (nI k)])), (q 15, .inl (cI, 8, .inl lg)), (q 16, .inl (cI, 8, .inl lp)), (q 17, .inr (4, [.ref (q 18), .int (nI np)])), (q 18, .inl (cI, 16, .inl rd)), (a 0, .inr (6, [.int (nI ln), .ref (a 1), .int (nI n), .ref (a 2), .ref (a 3), .int (nI k), .ref (a 4), .ref (a 5), .int (nI np), .ref (a 6), .long M.1, .ref (a 7), .int M.2.1, .int M.2.2.1, .int M.2.2.2.1, .int M.2.2.2.2.1, .ref (a 8), .long M.2.2.2.2.2.1])), (a 1, .inl (cI, 28, .inl bf)), (a 2, .inl (cJ, 20, .inr (.inl (gK G)))), (a 3, .inl (cI, 60, .inl (ilv G))), (a 4, .inl (cI, 8, .inl lg)), (a 5, .inl (cI, 8, .inl lp)), (a 6, .inl (cI, 16, .inl rd)), (a 7, .inl (cI, 3, .inl M.2.2.2.2.2.2.1)), (a 8, .inl (cJ, 3, .inr (.inl M.2.2.2.2.2.2.2)))] H := hP
  have hD : va_D (lwA s) [(q 0, .inr (5, [.ref (q 1), .ref (q 3), .ref (q 8), .ref (q 14), .ref (q 17)])), (q 1, .inr (2, [.ref (q 2), .int (nI ln)])), (q 2, .inl (cI, 28, .inl bf)), (q 3, .inr (0, [.ref (q 4), .ref (q 5), .ref (q 6), .ref (q 7), .int (nI n)])), (q 4, .inl (cJ, 20, .inr (.inl (gK G)))), (q 5, .inl (cI, 20, .inl (gF G))), (q 6, .inl (cI, 20, .inl (gD G))), (q 7, .inl (cI, 20, .inl (gC G))), (q 8, .inr (1, [.ref (q 9), .ref (q 10), .ref (q 11), .ref (q 12), .ref (q 13), .int (nI R.1.1)])), (q 9, .inl (cI, 190, .inl R.1.2.1)), (q 10, .inl (cJ, 190, .inr (.inl R.1.2.2.1))), (q 11, .inl (cJ, 190, .inr (.inl R.1.2.2.2.1))), (q 12, .inl (cJ, 190, .inr (.inl R.1.2.2.2.2))), (q 13, .inl (cI, 190, .inl R.2)), (q 14, .inr (3, [.ref (q 15), .ref (q 16), .int (nI k)])), (q 15, .inl (cI, 8, .inl lg)), (q 16, .inl (cI, 8, .inl lp)), (q 17, .inr (4, [.ref (q 18), .int (nI np)])), (q 18, .inl (cI, 16, .inl rd)), (a 0, .inr (6, [.int (nI ln), .ref (a 1), .int (nI n), .ref (a 2), .ref (a 3), .int (nI k), .ref (a 4), .ref (a 5), .int (nI np), .ref (a 6), .long M.1, .ref (a 7), .int M.2.1, .int M.2.2.1, .int M.2.2.2.1, .int M.2.2.2.2.1, .ref (a 8), .long M.2.2.2.2.2.1])), (a 1, .inl (cI, 28, .inl bf)), (a 2, .inl (cJ, 20, .inr (.inl (gK G)))), (a 3, .inl (cI, 60, .inl (ilv G))), (a 4, .inl (cI, 8, .inl lg)), (a 5, .inl (cI, 8, .inl lp)), (a 6, .inl (cI, 16, .inl rd)), (a 7, .inl (cI, 3, .inl M.2.2.2.2.2.2.1)), (a 8, .inl (cJ, 3, .inr (.inl M.2.2.2.2.2.2.2)))] := hD
  refine lv_aload_n hx hb dL_law_546 rfl (lv_at hl 2 rfl) ?_
  refine muVl (As := []) (rest := []) (wr := [(q 1, .inr (2, [.ref (q 2), .int (nI ln)])), (q 2, .inl (cI, 28, .inl bf)), (q 14, .inr (3, [.ref (q 15), .ref (q 16), .int (nI k)])), (q 15, .inl (cI, 8, .inl lg)), (q 16, .inl (cI, 8, .inl lp)), (q 17, .inr (4, [.ref (q 18), .int (nI np)])), (q 18, .inl (cI, 16, .inl rd)), (a 0, .inr (6, [.int (nI ln), .ref (a 1), .int (nI n), .ref (a 2), .ref (a 3), .int (nI k), .ref (a 4), .ref (a 5), .int (nI np), .ref (a 6), .long M.1, .ref (a 7), .int M.2.1, .int M.2.2.1, .int M.2.2.2.1, .int M.2.2.2.2.1, .ref (a 8), .long M.2.2.2.2.2.1])), (a 1, .inl (cI, 28, .inl bf)), (a 2, .inl (cJ, 20, .inr (.inl (gK G)))), (a 3, .inl (cI, 60, .inl (ilv G))), (a 4, .inl (cI, 8, .inl lg)), (a 5, .inl (cI, 8, .inl lp)), (a 6, .inl (cI, 16, .inl rd)), (a 7, .inl (cI, 3, .inl M.2.2.2.2.2.2.1)), (a 8, .inl (cJ, 3, .inr (.inl M.2.2.2.2.2.2.2)))]) (c_X5_doubletCount l dC dI cI cJ H.size q G n hn hG R.1.1 R.1.2.1 R.1.2.2.1 R.1.2.2.2.1 R.1.2.2.2.2 R.2 ) ⟨hx, hb, hml, hown, hts⟩ (cwV 0 hts gL_law_X5_doubletCount rfl rfl rfl (by decide +kernel) ⟨Nat.le_of_ble_eq_true rfl, Nat.le_of_ble_eq_true rfl⟩) hP hD hS hA hK hN [0, 8, 9, 10, 11, 12, 13, 3, 4, 5, 6, 7] [1, 2, 14, 15, 16, 17, 18, 19, 20, 21, 22, 23, 24, 25, 26, 27] rfl rfl (by decide) rfl (by decide) (by decide) (ci := 5) rfl rfl rfl hl.1 rfl (Nat.le_of_ble_eq_true rfl) dL_law_547 ⟨Nat.le_of_ble_eq_true rfl, Nat.le_of_ble_eq_true rfl⟩ (fun r u5 H locs hr0 hP hD hS => ?_)
  have hP := hP.sub (ws' := [(q 0, .inr (5, [.ref (q 1), .ref (q 3), .ref (q 8), .ref (q 14), .ref (q 17)])), (q 1, .inr (2, [.ref (q 2), .int (nI ln)])), (q 2, .inl (cI, 28, .inl bf)), (q 3, .inr (0, [.ref (q 4), .ref (q 5), .ref (q 6), .ref (q 7), .int (nI n)])), (q 4, .inl (cJ, 20, .inr (.inl (gK G)))), (q 5, .inl (cI, 20, .inl (gF G))), (q 6, .inl (cI, 20, .inl (gD G))), (q 7, .inl (cI, 20, .inl (gC G))), (q 8, .inr (1, [.ref (q 9), .ref (q 10), .ref (q 11), .ref (q 12), .ref (q 13), .int (nI u5.1.1)])), (q 9, .inl (cI, 190, .inl u5.1.2.1)), (q 10, .inl (cJ, 190, .inr (.inl u5.1.2.2.1))), (q 11, .inl (cJ, 190, .inr (.inl u5.1.2.2.2.1))), (q 12, .inl (cJ, 190, .inr (.inl u5.1.2.2.2.2))), (q 13, .inl (cI, 190, .inl u5.2)), (q 14, .inr (3, [.ref (q 15), .ref (q 16), .int (nI k)])), (q 15, .inl (cI, 8, .inl lg)), (q 16, .inl (cI, 8, .inl lp)), (q 17, .inr (4, [.ref (q 18), .int (nI np)])), (q 18, .inl (cI, 16, .inl rd)), (a 0, .inr (6, [.int (nI ln), .ref (a 1), .int (nI n), .ref (a 2), .ref (a 3), .int (nI k), .ref (a 4), .ref (a 5), .int (nI np), .ref (a 6), .long M.1, .ref (a 7), .int M.2.1, .int M.2.2.1, .int M.2.2.2.1, .int M.2.2.2.2.1, .ref (a 8), .long M.2.2.2.2.2.1])), (a 1, .inl (cI, 28, .inl bf)), (a 2, .inl (cJ, 20, .inr (.inl (gK G)))), (a 3, .inl (cI, 60, .inl (ilv G))), (a 4, .inl (cI, 8, .inl lg)), (a 5, .inl (cI, 8, .inl lp)), (a 6, .inl (cI, 16, .inl rd)), (a 7, .inl (cI, 3, .inl M.2.2.2.2.2.2.1)), (a 8, .inl (cJ, 3, .inr (.inl M.2.2.2.2.2.2.2)))]) [16, 0, 1, 23, 24, 25, 26, 27, 17, 18, 19, 20, 21, 22, 2, 3, 4, 5, 6, 7, 8, 9, 10, 11, 12, 13, 14, 15] rfl
  have hD := hD.sub (ws' := [(q 0, .inr (5, [.ref (q 1), .ref (q 3), .ref (q 8), .ref (q 14), .ref (q 17)])), (q 1, .inr (2, [.ref (q 2), .int (nI ln)])), (q 2, .inl (cI, 28, .inl bf)), (q 3, .inr (0, [.ref (q 4), .ref (q 5), .ref (q 6), .ref (q 7), .int (nI n)])), (q 4, .inl (cJ, 20, .inr (.inl (gK G)))), (q 5, .inl (cI, 20, .inl (gF G))), (q 6, .inl (cI, 20, .inl (gD G))), (q 7, .inl (cI, 20, .inl (gC G))), (q 8, .inr (1, [.ref (q 9), .ref (q 10), .ref (q 11), .ref (q 12), .ref (q 13), .int (nI u5.1.1)])), (q 9, .inl (cI, 190, .inl u5.1.2.1)), (q 10, .inl (cJ, 190, .inr (.inl u5.1.2.2.1))), (q 11, .inl (cJ, 190, .inr (.inl u5.1.2.2.2.1))), (q 12, .inl (cJ, 190, .inr (.inl u5.1.2.2.2.2))), (q 13, .inl (cI, 190, .inl u5.2)), (q 14, .inr (3, [.ref (q 15), .ref (q 16), .int (nI k)])), (q 15, .inl (cI, 8, .inl lg)), (q 16, .inl (cI, 8, .inl lp)), (q 17, .inr (4, [.ref (q 18), .int (nI np)])), (q 18, .inl (cI, 16, .inl rd)), (a 0, .inr (6, [.int (nI ln), .ref (a 1), .int (nI n), .ref (a 2), .ref (a 3), .int (nI k), .ref (a 4), .ref (a 5), .int (nI np), .ref (a 6), .long M.1, .ref (a 7), .int M.2.1, .int M.2.2.1, .int M.2.2.2.1, .int M.2.2.2.2.1, .ref (a 8), .long M.2.2.2.2.2.1])), (a 1, .inl (cI, 28, .inl bf)), (a 2, .inl (cJ, 20, .inr (.inl (gK G)))), (a 3, .inl (cI, 60, .inl (ilv G))), (a 4, .inl (cI, 8, .inl lg)), (a 5, .inl (cI, 8, .inl lp)), (a 6, .inl (cI, 16, .inl rd)), (a 7, .inl (cI, 3, .inl M.2.2.2.2.2.2.1)), (a 8, .inl (cJ, 3, .inr (.inl M.2.2.2.2.2.2.2)))]) [16, 0, 1, 23, 24, 25, 26, 27, 17, 18, 19, 20, 21, 22, 2, 3, 4, 5, 6, 7, 8, 9, 10, 11, 12, 13, 14, 15] (by decide) rfl
  subst hr0
  refine lv_aload_n hx hb dL_law_550 rfl (lv_at hl 1 rfl) ?_
  refine roVl (As := []) (rest := [.long (lN (cntD G n))]) (c_X6_doubletCount l dC dI cI cJ a bf ln (by omega) G n (by omega) lg lp k (by omega) rd np (by omega) M hG hL hR ) ⟨hx, hb, hml, hown, hts⟩ (cwV 0 hts gL_law_X6_doubletCount rfl rfl rfl (by decide +kernel) ⟨Nat.le_of_ble_eq_true rfl, Nat.le_of_ble_eq_true rfl⟩) (hP.sub [19, 20, 21, 22, 23, 24, 25, 26, 27] rfl) hK hN (ci := 6) rfl rfl rfl hl.1 rfl (Nat.le_of_ble_eq_true rfl) dL_law_551 ⟨Nat.le_of_ble_eq_true rfl, Nat.le_of_ble_eq_true rfl⟩ (fun r hr0 => ?_)
  subst hr0
  refine rl_ifeq (tgt := 1028) hx hb dL_law_554 dL_law_555 (by decide) (fun h554 => ?_) (fun h554 => ?_)
  · exact ih bf ln hln G n hn lg lp k hk rd np hp hG hL hpw hR u5 M H locs hP hD hS ls hl
  · exact absurd rfl h554
set_option maxHeartbeats 4000000 in
set_option maxRecDepth 100000 in
theorem law_560 (C0 : lw_At p s m meth c b L xs) (hLn : L ≤ 3584) (hK : va_K (dC, dI) vwCl (tyK cI cJ) s) (hN : NW s) {i : Nat} (hi : i + 7 ≤ L) (ih : LC p l e s m below meth c b dC dI cI cJ q a 1028 i) : LC p l e s m below meth c b dC dI cI cJ q a 560 i := by
  intro bf ln hln G n hn lg lp k hk rd np hp hG hL hpw hR R M H locs hP hD hS ls hl
  obtain ⟨hx, hb, hr, hml, hown, hts, hX, hbl, hlocks, hgv⟩ := C0
  have hts : ∀ w ∈ wsL_law, w.before #[Value.ref b] s = true := fun w h => hts w (wsL_law_in w h)
  have hown : s.vm.findClass RL = some m.cls := hown
  have hA : ∀ x : Nat, s.heap.size ≤ x → lwA s x := fun _ h => h
  have hbA : ¬ lwA s b := Nat.not_le.mpr hbl
  have hP : va_P (dC, dI) vwCl [(q 0, .inr (5, [.ref (q 1), .ref (q 3), .ref (q 8), .ref (q 14), .ref (q 17)])), (q 1, .inr (2, [.ref (q 2), .int (nI ln)])), (q 2, .inl (cI, 28, .inl bf)), (q 3, .inr (0, [.ref (q 4), .ref (q 5), .ref (q 6), .ref (q 7), .int (nI n)])), (q 4, .inl (cJ, 20, .inr (.inl (gK G)))), (q 5, .inl (cI, 20, .inl (gF G))), (q 6, .inl (cI, 20, .inl (gD G))), (q 7, .inl (cI, 20, .inl (gC G))), (q 8, .inr (1, [.ref (q 9), .ref (q 10), .ref (q 11), .ref (q 12), .ref (q 13), .int (nI R.1.1)])), (q 9, .inl (cI, 190, .inl R.1.2.1)), (q 10, .inl (cJ, 190, .inr (.inl R.1.2.2.1))), (q 11, .inl (cJ, 190, .inr (.inl R.1.2.2.2.1))), (q 12, .inl (cJ, 190, .inr (.inl R.1.2.2.2.2))), (q 13, .inl (cI, 190, .inl R.2)), (q 14, .inr (3, [.ref (q 15), .ref (q 16), .int (nI k)])), (q 15, .inl (cI, 8, .inl lg)), (q 16, .inl (cI, 8, .inl lp)), (q 17, .inr (4, [.ref (q 18), .int (nI np)])), (q 18, .inl (cI, 16, .inl rd)), (a 0, .inr (6, [.int (nI ln), .ref (a 1), .int (nI n), .ref (a 2), .ref (a 3), .int (nI k), .ref (a 4), .ref (a 5), .int (nI np), .ref (a 6), .long M.1, .ref (a 7), .int M.2.1, .int M.2.2.1, .int M.2.2.2.1, .int M.2.2.2.2.1, .ref (a 8), .long M.2.2.2.2.2.1])), (a 1, .inl (cI, 28, .inl bf)), (a 2, .inl (cJ, 20, .inr (.inl (gK G)))), (a 3, .inl (cI, 60, .inl (ilv G))), (a 4, .inl (cI, 8, .inl lg)), (a 5, .inl (cI, 8, .inl lp)), (a 6, .inl (cI, 16, .inl rd)), (a 7, .inl (cI, 3, .inl M.2.2.2.2.2.2.1)), (a 8, .inl (cJ, 3, .inr (.inl M.2.2.2.2.2.2.2)))] H := hP
  have hD : va_D (lwA s) [(q 0, .inr (5, [.ref (q 1), .ref (q 3), .ref (q 8), .ref (q 14), .ref (q 17)])), (q 1, .inr (2, [.ref (q 2), .int (nI ln)])), (q 2, .inl (cI, 28, .inl bf)), (q 3, .inr (0, [.ref (q 4), .ref (q 5), .ref (q 6), .ref (q 7), .int (nI n)])), (q 4, .inl (cJ, 20, .inr (.inl (gK G)))), (q 5, .inl (cI, 20, .inl (gF G))), (q 6, .inl (cI, 20, .inl (gD G))), (q 7, .inl (cI, 20, .inl (gC G))), (q 8, .inr (1, [.ref (q 9), .ref (q 10), .ref (q 11), .ref (q 12), .ref (q 13), .int (nI R.1.1)])), (q 9, .inl (cI, 190, .inl R.1.2.1)), (q 10, .inl (cJ, 190, .inr (.inl R.1.2.2.1))), (q 11, .inl (cJ, 190, .inr (.inl R.1.2.2.2.1))), (q 12, .inl (cJ, 190, .inr (.inl R.1.2.2.2.2))), (q 13, .inl (cI, 190, .inl R.2)), (q 14, .inr (3, [.ref (q 15), .ref (q 16), .int (nI k)])), (q 15, .inl (cI, 8, .inl lg)), (q 16, .inl (cI, 8, .inl lp)), (q 17, .inr (4, [.ref (q 18), .int (nI np)])), (q 18, .inl (cI, 16, .inl rd)), (a 0, .inr (6, [.int (nI ln), .ref (a 1), .int (nI n), .ref (a 2), .ref (a 3), .int (nI k), .ref (a 4), .ref (a 5), .int (nI np), .ref (a 6), .long M.1, .ref (a 7), .int M.2.1, .int M.2.2.1, .int M.2.2.2.1, .int M.2.2.2.2.1, .ref (a 8), .long M.2.2.2.2.2.1])), (a 1, .inl (cI, 28, .inl bf)), (a 2, .inl (cJ, 20, .inr (.inl (gK G)))), (a 3, .inl (cI, 60, .inl (ilv G))), (a 4, .inl (cI, 8, .inl lg)), (a 5, .inl (cI, 8, .inl lp)), (a 6, .inl (cI, 16, .inl rd)), (a 7, .inl (cI, 3, .inl M.2.2.2.2.2.2.1)), (a 8, .inl (cJ, 3, .inr (.inl M.2.2.2.2.2.2.2)))] := hD
  refine lv_aload_n hx hb dL_law_560 rfl (lv_at hl 2 rfl) ?_
  refine lv_aload_n hx hb dL_law_561 rfl (lv_at hl 3 rfl) ?_
  refine lv_iload_n hx hb dL_law_562 rfl (lv_at hl 0 rfl) ?_
  refine lv_iconst (v := 1) hx hb dL_law_563 (by decide) ?_
  refine lv_iadd hx hb dL_law_564 ?_
  refine rw_topi (nI_add i 1) ?_
  refine va_sld hx hb hX hbl hbA hS (vp_in_nI (show i + 1 < L by omega) (by omega)) dL_law_565 ?_
  refine lv_aload_n hx hb dL_law_566 rfl (lv_at hl 3 rfl) ?_
  refine lv_iload_n hx hb dL_law_567 rfl (lv_at hl 0 rfl) ?_
  refine lv_iconst (v := 2) hx hb dL_law_568 (by decide) ?_
  refine lv_iadd hx hb dL_law_569 ?_
  refine rw_topi (nI_add i 2) ?_
  refine va_sld hx hb hX hbl hbA hS (vp_in_nI (show i + 2 < L by omega) (by omega)) dL_law_570 ?_
  refine lv_aload_n hx hb dL_law_571 rfl (lv_at hl 3 rfl) ?_
  refine lv_iload_n hx hb dL_law_572 rfl (lv_at hl 0 rfl) ?_
  refine lv_iconst (v := 3) hx hb dL_law_573 (by decide) ?_
  refine lv_iadd hx hb dL_law_574 ?_
  refine rw_topi (nI_add i 3) ?_
  refine va_sld hx hb hX hbl hbA hS (vp_in_nI (show i + 3 < L by omega) (by omega)) dL_law_575 ?_
  refine lv_aload_n hx hb dL_law_576 rfl (lv_at hl 3 rfl) ?_
  refine lv_iload_n hx hb dL_law_577 rfl (lv_at hl 0 rfl) ?_
  refine lv_iconst (v := 4) hx hb dL_law_578 (by decide) ?_
  refine lv_iadd hx hb dL_law_579 ?_
  refine rw_topi (nI_add i 4) ?_
  refine va_sld hx hb hX hbl hbA hS (vp_in_nI (show i + 4 < L by omega) (by omega)) dL_law_580 ?_
  refine lv_aload_n hx hb dL_law_581 rfl (lv_at hl 3 rfl) ?_
  refine lv_iload_n hx hb dL_law_582 rfl (lv_at hl 0 rfl) ?_
  refine lv_iconst (v := 5) hx hb dL_law_583 (by decide) ?_
  refine lv_iadd hx hb dL_law_584 ?_
  refine rw_topi (nI_add i 5) ?_
  refine va_sld hx hb hX hbl hbA hS (vp_in_nI (show i + 5 < L by omega) (by omega)) dL_law_585 ?_
  refine roVl (As := [.int (xs (nI (i + 1)).toNatClampNeg), .int (xs (nI (i + 2)).toNatClampNeg), .int (xs (nI (i + 3)).toNatClampNeg), .int (xs (nI (i + 4)).toNatClampNeg), .int (xs (nI (i + 5)).toNatClampNeg)]) (rest := []) (c_X5_tripletPower l dC dI cI cJ q G n hn (xs (nI (i + 1)).toNatClampNeg) (xs (nI (i + 2)).toNatClampNeg) (xs (nI (i + 3)).toNatClampNeg) (xs (nI (i + 4)).toNatClampNeg) (xs (nI (i + 5)).toNatClampNeg)) ⟨hx, hb, hml, hown, hts⟩ (cwV 5 hts gL_law_X5_tripletPower rfl rfl rfl (by decide +kernel) ⟨Nat.le_of_ble_eq_true rfl, Nat.le_of_ble_eq_true rfl⟩) (hP.sub [0, 3, 4, 5, 6, 7] rfl) hK hN (ci := 5) rfl rfl rfl hl.1 rfl (Nat.le_of_ble_eq_true rfl) dL_law_586 ⟨Nat.le_of_ble_eq_true rfl, Nat.le_of_ble_eq_true rfl⟩ (fun r hr0 => ?_)
  subst hr0
  refine lv_aload_n hx hb dL_law_589 rfl (lv_at hl 1 rfl) ?_
  refine lv_aload_n hx hb dL_law_590 rfl (lv_at hl 3 rfl) ?_
  refine lv_iload_n hx hb dL_law_591 rfl (lv_at hl 0 rfl) ?_
  refine lv_iconst (v := 1) hx hb dL_law_592 (by decide) ?_
  refine lv_iadd hx hb dL_law_593 ?_
  refine rw_topi (nI_add i 1) ?_
  refine va_sld hx hb hX hbl hbA hS (vp_in_nI (show i + 1 < L by omega) (by omega)) dL_law_594 ?_
  refine lv_aload_n hx hb dL_law_595 rfl (lv_at hl 3 rfl) ?_
  refine lv_iload_n hx hb dL_law_596 rfl (lv_at hl 0 rfl) ?_
  refine lv_iconst (v := 2) hx hb dL_law_597 (by decide) ?_
  refine lv_iadd hx hb dL_law_598 ?_
  refine rw_topi (nI_add i 2) ?_
  refine va_sld hx hb hX hbl hbA hS (vp_in_nI (show i + 2 < L by omega) (by omega)) dL_law_599 ?_
  refine lv_aload_n hx hb dL_law_600 rfl (lv_at hl 3 rfl) ?_
  refine lv_iload_n hx hb dL_law_601 rfl (lv_at hl 0 rfl) ?_
  refine lv_iconst (v := 3) hx hb dL_law_602 (by decide) ?_
  refine lv_iadd hx hb dL_law_603 ?_
  refine rw_topi (nI_add i 3) ?_
  refine va_sld hx hb hX hbl hbA hS (vp_in_nI (show i + 3 < L by omega) (by omega)) dL_law_604 ?_
  refine lv_aload_n hx hb dL_law_605 rfl (lv_at hl 3 rfl) ?_
  refine lv_iload_n hx hb dL_law_606 rfl (lv_at hl 0 rfl) ?_
  refine lv_iconst (v := 4) hx hb dL_law_607 (by decide) ?_
  refine lv_iadd hx hb dL_law_608 ?_
  refine rw_topi (nI_add i 4) ?_
  refine va_sld hx hb hX hbl hbA hS (vp_in_nI (show i + 4 < L by omega) (by omega)) dL_law_609 ?_
  refine lv_aload_n hx hb dL_law_610 rfl (lv_at hl 3 rfl) ?_
  refine lv_iload_n hx hb dL_law_611 rfl (lv_at hl 0 rfl) ?_
  refine lv_iconst (v := 5) hx hb dL_law_612 (by decide) ?_
  refine lv_iadd hx hb dL_law_613 ?_
  refine rw_topi (nI_add i 5) ?_
  refine va_sld hx hb hX hbl hbA hS (vp_in_nI (show i + 5 < L by omega) (by omega)) dL_law_614 ?_
  refine roVl (As := [.int (xs (nI (i + 1)).toNatClampNeg), .int (xs (nI (i + 2)).toNatClampNeg), .int (xs (nI (i + 3)).toNatClampNeg), .int (xs (nI (i + 4)).toNatClampNeg), .int (xs (nI (i + 5)).toNatClampNeg)]) (rest := [.long (sTri G n (xs (nI (i + 1)).toNatClampNeg) (xs (nI (i + 2)).toNatClampNeg) (xs (nI (i + 3)).toNatClampNeg) (xs (nI (i + 4)).toNatClampNeg) (xs (nI (i + 5)).toNatClampNeg))]) (c_X6_tripletPower l dC dI cI cJ a bf ln (by omega) G n (by omega) lg lp k (by omega) rd np (by omega) M hG hL hR (xs (nI (i + 1)).toNatClampNeg) (xs (nI (i + 2)).toNatClampNeg) (xs (nI (i + 3)).toNatClampNeg) (xs (nI (i + 4)).toNatClampNeg) (xs (nI (i + 5)).toNatClampNeg)) ⟨hx, hb, hml, hown, hts⟩ (cwV 5 hts gL_law_X6_tripletPower rfl rfl rfl (by decide +kernel) ⟨Nat.le_of_ble_eq_true rfl, Nat.le_of_ble_eq_true rfl⟩) (hP.sub [19, 20, 21, 22, 23, 24, 25, 26, 27] rfl) hK hN (ci := 6) rfl rfl rfl hl.1 rfl (Nat.le_of_ble_eq_true rfl) dL_law_615 ⟨Nat.le_of_ble_eq_true rfl, Nat.le_of_ble_eq_true rfl⟩ (fun r hr0 => ?_)
  subst hr0
  refine rl_ifeq (tgt := 1028) hx hb dL_law_618 dL_law_619 (by decide) (fun h618 => ?_) (fun h618 => ?_)
  · exact ih bf ln hln G n hn lg lp k hk rd np hp hG hL hpw hR R M H locs hP hD hS ls hl
  · exact absurd rfl h618
end LAW1
