section LAWL
variable {p : Program} {l : Launch} {e : Env} {s : State} {m : MethodId} {below : List Frame} {meth : Method} {c : Code} {b L : Nat} {xs : Nat → Int32} {dC : Nat → ClassId} {dI : Nat → Nat → Nat} {cI cJ : ClassId} {q a : Nat → Nat}
set_option maxHeartbeats 4000000 in
set_option maxRecDepth 100000 in
theorem law_33 (C0 : lw_At p s m meth c b L xs) (hLn : L ≤ 3584) (hK : va_K (dC, dI) vwCl (tyK cI cJ) s) (hN : NW s) {i : Nat} (hi : i + 7 ≤ L) (ih : LC p l e s m below meth c b dC dI cI cJ q a 1028 i) (x : Int32) (bf : Nat → Int32) (ln : Nat) (hln : ln ≤ 28) (G : GL) (n : Nat) (hn : n ≤ 20) (lg lp : Nat → Int32) (k : Nat) (hk : k ≤ 8) (rd : Nat → Int32) (np : Nat) (hp : np ≤ 16) (hG : gOK G n) (hL : lOK lg k n) (hpw : pOK lp k) (hR : rOK rd np) (R : RS) (M : MS) (H : Heap) (locs : List Loc) (hP : va_P (dC, dI) vwCl [(q 0, .inr (5, [.ref (q 1), .ref (q 3), .ref (q 8), .ref (q 14), .ref (q 17)])), (q 1, .inr (2, [.ref (q 2), .int (nI ln)])), (q 2, .inl (cI, 28, .inl bf)), (q 3, .inr (0, [.ref (q 4), .ref (q 5), .ref (q 6), .ref (q 7), .int (nI n)])), (q 4, .inl (cJ, 20, .inr (.inl (gK G)))), (q 5, .inl (cI, 20, .inl (gF G))), (q 6, .inl (cI, 20, .inl (gD G))), (q 7, .inl (cI, 20, .inl (gC G))), (q 8, .inr (1, [.ref (q 9), .ref (q 10), .ref (q 11), .ref (q 12), .ref (q 13), .int (nI R.1.1)])), (q 9, .inl (cI, 190, .inl R.1.2.1)), (q 10, .inl (cJ, 190, .inr (.inl R.1.2.2.1))), (q 11, .inl (cJ, 190, .inr (.inl R.1.2.2.2.1))), (q 12, .inl (cJ, 190, .inr (.inl R.1.2.2.2.2))), (q 13, .inl (cI, 190, .inl R.2)), (q 14, .inr (3, [.ref (q 15), .ref (q 16), .int (nI k)])), (q 15, .inl (cI, 8, .inl lg)), (q 16, .inl (cI, 8, .inl lp)), (q 17, .inr (4, [.ref (q 18), .int (nI np)])), (q 18, .inl (cI, 16, .inl rd)), (a 0, .inr (6, [.int (nI ln), .ref (a 1), .int (nI n), .ref (a 2), .ref (a 3), .int (nI k), .ref (a 4), .ref (a 5), .int (nI np), .ref (a 6), .long M.1, .ref (a 7), .int M.2.1, .int M.2.2.1, .int M.2.2.2.1, .int M.2.2.2.2.1, .ref (a 8), .long M.2.2.2.2.2.1])), (a 1, .inl (cI, 28, .inl bf)), (a 2, .inl (cJ, 20, .inr (.inl (gK G)))), (a 3, .inl (cI, 60, .inl (ilv G))), (a 4, .inl (cI, 8, .inl lg)), (a 5, .inl (cI, 8, .inl lp)), (a 6, .inl (cI, 16, .inl rd)), (a 7, .inl (cI, 3, .inl M.2.2.2.2.2.2.1)), (a 8, .inl (cJ, 3, .inr (.inl M.2.2.2.2.2.2.2)))] H) (hD : va_D (lwA s) [(q 0, .inr (5, [.ref (q 1), .ref (q 3), .ref (q 8), .ref (q 14), .ref (q 17)])), (q 1, .inr (2, [.ref (q 2), .int (nI ln)])), (q 2, .inl (cI, 28, .inl bf)), (q 3, .inr (0, [.ref (q 4), .ref (q 5), .ref (q 6), .ref (q 7), .int (nI n)])), (q 4, .inl (cJ, 20, .inr (.inl (gK G)))), (q 5, .inl (cI, 20, .inl (gF G))), (q 6, .inl (cI, 20, .inl (gD G))), (q 7, .inl (cI, 20, .inl (gC G))), (q 8, .inr (1, [.ref (q 9), .ref (q 10), .ref (q 11), .ref (q 12), .ref (q 13), .int (nI R.1.1)])), (q 9, .inl (cI, 190, .inl R.1.2.1)), (q 10, .inl (cJ, 190, .inr (.inl R.1.2.2.1))), (q 11, .inl (cJ, 190, .inr (.inl R.1.2.2.2.1))), (q 12, .inl (cJ, 190, .inr (.inl R.1.2.2.2.2))), (q 13, .inl (cI, 190, .inl R.2)), (q 14, .inr (3, [.ref (q 15), .ref (q 16), .int (nI k)])), (q 15, .inl (cI, 8, .inl lg)), (q 16, .inl (cI, 8, .inl lp)), (q 17, .inr (4, [.ref (q 18), .int (nI np)])), (q 18, .inl (cI, 16, .inl rd)), (a 0, .inr (6, [.int (nI ln), .ref (a 1), .int (nI n), .ref (a 2), .ref (a 3), .int (nI k), .ref (a 4), .ref (a 5), .int (nI np), .ref (a 6), .long M.1, .ref (a 7), .int M.2.1, .int M.2.2.1, .int M.2.2.2.1, .int M.2.2.2.2.1, .ref (a 8), .long M.2.2.2.2.2.1])), (a 1, .inl (cI, 28, .inl bf)), (a 2, .inl (cJ, 20, .inr (.inl (gK G)))), (a 3, .inl (cI, 60, .inl (ilv G))), (a 4, .inl (cI, 8, .inl lg)), (a 5, .inl (cI, 8, .inl lp)), (a 6, .inl (cI, 16, .inl rd)), (a 7, .inl (cI, 3, .inl M.2.2.2.2.2.2.1)), (a 8, .inl (cJ, 3, .inr (.inl M.2.2.2.2.2.2.2)))]) (hS : va_S (lwA s) s.heap H locs) (ls : Array Slot) (hl : lv_has ls 4 [(3, .int (nI i)), (2, .ref (a 0)), (1, .ref (q 0)), (0, .ref b)]) : W p l e room_1 s m #[Value.ref b] below meth c H locs 28 1277 (lw_Z below #[Value.ref b] s) (F0 m 33 ls [.int (x &&& 31)]) := by
  have hx := C0.1
  have hb := C0.2.1
  obtain ⟨j, hj, ej⟩ := pk_andE x (m := 31) 5 (by decide)
  refine rw_topi ej ?_
  by_cases h29 : 29 ≤ j
  · refine lv_tableOut (tgt := 1028) hx hb dL_law_33 (Or.inr (by rw [nI_toInt (by omega)]; omega)) (by decide) ?_
    exact ih bf ln hln G n hn lg lp k hk rd np hp hG hL hpw hR R M H locs hP hD hS ls hl
  · rcases (show j = 0 ∨ j = 1 ∨ j = 2 ∨ j = 3 ∨ j = 4 ∨ j = 5 ∨ j = 6 ∨ j = 7 ∨ j = 8 ∨ j = 9 ∨ j = 10 ∨ j = 11 ∨ j = 12 ∨ j = 13 ∨ j = 14 ∨ j = 15 ∨ j = 16 ∨ j = 17 ∨ j = 18 ∨ j = 19 ∨ j = 20 ∨ j = 21 ∨ j = 22 ∨ j = 23 ∨ j = 24 ∨ j = 25 ∨ j = 26 ∨ j = 27 ∨ j = 28 by omega) with rfl | rfl | rfl | rfl | rfl | rfl | rfl | rfl | rfl | rfl | rfl | rfl | rfl | rfl | rfl | rfl | rfl | rfl | rfl | rfl | rfl | rfl | rfl | rfl | rfl | rfl | rfl | rfl | rfl
    · exact lv_tableIn (off := 131) (tgt := 164) hx hb dL_law_33 (by decide +kernel) (by decide +kernel) (by decide +kernel) (by decide) (law_164 C0 hLn hK hN hi ih bf ln hln G n hn lg lp k hk rd np hp hG hL hpw hR R M H locs hP hD hS ls hl)
    · exact lv_tableIn (off := 155) (tgt := 188) hx hb dL_law_33 (by decide +kernel) (by decide +kernel) (by decide +kernel) (by decide) (law_188 C0 hLn hK hN hi ih bf ln hln G n hn lg lp k hk rd np hp hG hL hpw hR R M H locs hP hD hS ls hl)
    · exact lv_tableIn (off := 169) (tgt := 202) hx hb dL_law_33 (by decide +kernel) (by decide +kernel) (by decide +kernel) (by decide) (law_202 C0 hLn hK hN hi ih bf ln hln G n hn lg lp k hk rd np hp hG hL hpw hR R M H locs hP hD hS ls hl)
    · exact lv_tableIn (off := 183) (tgt := 216) hx hb dL_law_33 (by decide +kernel) (by decide +kernel) (by decide +kernel) (by decide) (law_216 C0 hLn hK hN hi ih bf ln hln G n hn lg lp k hk rd np hp hG hL hpw hR R M H locs hP hD hS ls hl)
    · exact lv_tableIn (off := 197) (tgt := 230) hx hb dL_law_33 (by decide +kernel) (by decide +kernel) (by decide +kernel) (by decide) (law_230 C0 hLn hK hN hi ih bf ln hln G n hn lg lp k hk rd np hp hG hL hpw hR R M H locs hP hD hS ls hl)
    · exact lv_tableIn (off := 221) (tgt := 254) hx hb dL_law_33 (by decide +kernel) (by decide +kernel) (by decide +kernel) (by decide) (law_254 C0 hLn hK hN hi ih bf ln hln G n hn lg lp k hk rd np hp hG hL hpw hR R M H locs hP hD hS ls hl)
    · exact lv_tableIn (off := 235) (tgt := 268) hx hb dL_law_33 (by decide +kernel) (by decide +kernel) (by decide +kernel) (by decide) (law_268 C0 hLn hK hN hi ih bf ln hln G n hn lg lp k hk rd np hp hG hL hpw hR R M H locs hP hD hS ls hl)
    · exact lv_tableIn (off := 269) (tgt := 302) hx hb dL_law_33 (by decide +kernel) (by decide +kernel) (by decide +kernel) (by decide) (law_302 C0 hLn hK hN hi ih bf ln hln G n hn lg lp k hk rd np hp hG hL hpw hR R M H locs hP hD hS ls hl)
    · exact lv_tableIn (off := 293) (tgt := 326) hx hb dL_law_33 (by decide +kernel) (by decide +kernel) (by decide +kernel) (by decide) (law_326 C0 hLn hK hN hi ih bf ln hln G n hn lg lp k hk rd np hp hG hL hpw hR R M H locs hP hD hS ls hl)
    · exact lv_tableIn (off := 317) (tgt := 350) hx hb dL_law_33 (by decide +kernel) (by decide +kernel) (by decide +kernel) (by decide) (law_350 C0 hLn hK hN hi ih bf ln hln G n hn lg lp k hk rd np hp hG hL hpw hR R M H locs hP hD hS ls hl)
    · exact lv_tableIn (off := 341) (tgt := 374) hx hb dL_law_33 (by decide +kernel) (by decide +kernel) (by decide +kernel) (by decide) (law_374 C0 hLn hK hN hi ih bf ln hln G n hn lg lp k hk rd np hp hG hL hpw hR R M H locs hP hD hS ls hl)
    · exact lv_tableIn (off := 365) (tgt := 398) hx hb dL_law_33 (by decide +kernel) (by decide +kernel) (by decide +kernel) (by decide) (law_398 C0 hLn hK hN hi ih bf ln hln G n hn lg lp k hk rd np hp hG hL hpw hR R M H locs hP hD hS ls hl)
    · exact lv_tableIn (off := 419) (tgt := 452) hx hb dL_law_33 (by decide +kernel) (by decide +kernel) (by decide +kernel) (by decide) (law_452 C0 hLn hK hN hi ih bf ln hln G n hn lg lp k hk rd np hp hG hL hpw hR R M H locs hP hD hS ls hl)
    · exact lv_tableIn (off := 463) (tgt := 496) hx hb dL_law_33 (by decide +kernel) (by decide +kernel) (by decide +kernel) (by decide) (law_496 C0 hLn hK hN hi ih bf ln hln G n hn lg lp k hk rd np hp hG hL hpw hR R M H locs hP hD hS ls hl)
    · exact lv_tableIn (off := 513) (tgt := 546) hx hb dL_law_33 (by decide +kernel) (by decide +kernel) (by decide +kernel) (by decide) (law_546 C0 hLn hK hN hi ih bf ln hln G n hn lg lp k hk rd np hp hG hL hpw hR R M H locs hP hD hS ls hl)
    · exact lv_tableIn (off := 527) (tgt := 560) hx hb dL_law_33 (by decide +kernel) (by decide +kernel) (by decide +kernel) (by decide) (law_560 C0 hLn hK hN hi ih bf ln hln G n hn lg lp k hk rd np hp hG hL hpw hR R M H locs hP hD hS ls hl)
    · exact lv_tableIn (off := 591) (tgt := 624) hx hb dL_law_33 (by decide +kernel) (by decide +kernel) (by decide +kernel) (by decide) (law_624 C0 hLn hK hN hi ih bf ln hln G n hn lg lp k hk rd np hp hG hL hpw hR R M H locs hP hD hS ls hl)
    · exact lv_tableIn (off := 605) (tgt := 638) hx hb dL_law_33 (by decide +kernel) (by decide +kernel) (by decide +kernel) (by decide) (law_638 C0 hLn hK hN hi ih bf ln hln G n hn lg lp k hk rd np hp hG hL hpw hR R M H locs hP hD hS ls hl)
    · exact lv_tableIn (off := 639) (tgt := 672) hx hb dL_law_33 (by decide +kernel) (by decide +kernel) (by decide +kernel) (by decide) (law_672 C0 hLn hK hN hi ih bf ln hln G n hn lg lp k hk rd np hp hG hL hpw hR R M H locs hP hD hS ls hl)
    · exact lv_tableIn (off := 663) (tgt := 696) hx hb dL_law_33 (by decide +kernel) (by decide +kernel) (by decide +kernel) (by decide) (law_696 C0 hLn hK hN hi ih bf ln hln G n hn lg lp k hk rd np hp hG hL hpw hR R M H locs hP hD hS ls hl)
    · exact lv_tableIn (off := 677) (tgt := 710) hx hb dL_law_33 (by decide +kernel) (by decide +kernel) (by decide +kernel) (by decide) (law_710 C0 hLn hK hN hi ih bf ln hln G n hn lg lp k hk rd np hp hG hL hpw hR R M H locs hP hD hS ls hl)
    · exact lv_tableIn (off := 701) (tgt := 734) hx hb dL_law_33 (by decide +kernel) (by decide +kernel) (by decide +kernel) (by decide) (law_734 C0 hLn hK hN hi ih bf ln hln G n hn lg lp k hk rd np hp hG hL hpw hR R M H locs hP hD hS ls hl)
    · exact lv_tableIn (off := 725) (tgt := 758) hx hb dL_law_33 (by decide +kernel) (by decide +kernel) (by decide +kernel) (by decide) (law_758 C0 hLn hK hN hi ih bf ln hln G n hn lg lp k hk rd np hp hG hL hpw hR R M H locs hP hD hS ls hl)
    · exact lv_tableIn (off := 861) (tgt := 894) hx hb dL_law_33 (by decide +kernel) (by decide +kernel) (by decide +kernel) (by decide) (law_894 C0 hLn hK hN hi ih bf ln hln G n hn lg lp k hk rd np hp hG hL hpw hR R M H locs hP hD hS ls hl)
    · exact lv_tableIn (off := 885) (tgt := 918) hx hb dL_law_33 (by decide +kernel) (by decide +kernel) (by decide +kernel) (by decide) (law_918 C0 hLn hK hN hi ih bf ln hln G n hn lg lp k hk rd np hp hG hL hpw hR R M H locs hP hD hS ls hl)
    · exact lv_tableIn (off := 899) (tgt := 932) hx hb dL_law_33 (by decide +kernel) (by decide +kernel) (by decide +kernel) (by decide) (law_932 C0 hLn hK hN hi ih bf ln hln G n hn lg lp k hk rd np hp hG hL hpw hR R M H locs hP hD hS ls hl)
    · exact lv_tableIn (off := 923) (tgt := 956) hx hb dL_law_33 (by decide +kernel) (by decide +kernel) (by decide +kernel) (by decide) (law_956 C0 hLn hK hN hi ih bf ln hln G n hn lg lp k hk rd np hp hG hL hpw hR R M H locs hP hD hS ls hl)
    · exact lv_tableIn (off := 947) (tgt := 980) hx hb dL_law_33 (by decide +kernel) (by decide +kernel) (by decide +kernel) (by decide) (law_980 C0 hLn hK hN hi ih bf ln hln G n hn lg lp k hk rd np hp hG hL hpw hR R M H locs hP hD hS ls hl)
    · exact lv_tableIn (off := 981) (tgt := 1014) hx hb dL_law_33 (by decide +kernel) (by decide +kernel) (by decide +kernel) (by decide) (law_1014 C0 hLn hK hN hi ih bf ln hln G n hn lg lp k hk rd np hp hG hL hpw hR R M H locs hP hD hS ls hl)
set_option maxHeartbeats 4000000 in
set_option maxRecDepth 100000 in
theorem law_loop (C0 : lw_At p s m meth c b L xs) (hLn : L ≤ 3584) (hK : va_K (dC, dI) vwCl (tyK cI cJ) s) (hN : NW s) : ∀ f i : Nat, i ≤ L → L ≤ i + f → LC p l e s m below meth c b dC dI cI cJ q a 18 i := by
  intro f
  induction f with
  | zero =>
    intro i h1 h2
    intro bf ln hln G n hn lg lp k hk rd np hp hG hL hpw hR R M H locs hP hD hS ls hl
    obtain ⟨hx, hb, hr, hml, hown, hts, hX, hbl, hlocks, hgv⟩ := id C0
    have hts : ∀ w ∈ wsL_law, w.before #[Value.ref b] s = true := fun w h => hts w (wsL_law_in w h)
    have hown : s.vm.findClass RL = some m.cls := hown
    have hA : ∀ x : Nat, s.heap.size ≤ x → lwA s x := fun _ h => h
    have hbA : ¬ lwA s b := Nat.not_le.mpr hbl
    refine lv_iload_n hx hb dL_law_18 rfl (lv_at hl 0 rfl) ?_
    refine lv_aload_n hx hb dL_law_19 rfl (lv_at hl 3 rfl) ?_
    refine va_slen hx hb hX hbl hbA hS dL_law_20 ?_
    refine lv_bipush (v := 7) hx hb dL_law_21 (by decide) ?_
    refine lv_isub hx hb dL_law_23 ?_
    refine lv_icmp_gt (tgt := 1034) hx hb dL_law_24 (by decide) (fun h24 => ?_) (fun h24 => ?_)
    · refine lv_iconst (v := 1) hx hb dL_law_1034 (by decide) ?_
      refine va_forget (fun q hq => hS.2.2 q hq) ?_
      exact lw_ret hx hb hr hlocks dL_law_1035
    · have hi := lw_le (by omega) (by omega) h24
      exact absurd hi (by omega)
  | succ f ih =>
    intro i h1 h2
    intro bf ln hln G n hn lg lp k hk rd np hp hG hL hpw hR R M H locs hP hD hS ls hl
    obtain ⟨hx, hb, hr, hml, hown, hts, hX, hbl, hlocks, hgv⟩ := id C0
    have hts : ∀ w ∈ wsL_law, w.before #[Value.ref b] s = true := fun w h => hts w (wsL_law_in w h)
    have hown : s.vm.findClass RL = some m.cls := hown
    have hA : ∀ x : Nat, s.heap.size ≤ x → lwA s x := fun _ h => h
    have hbA : ¬ lwA s b := Nat.not_le.mpr hbl
    refine lv_iload_n hx hb dL_law_18 rfl (lv_at hl 0 rfl) ?_
    refine lv_aload_n hx hb dL_law_19 rfl (lv_at hl 3 rfl) ?_
    refine va_slen hx hb hX hbl hbA hS dL_law_20 ?_
    refine lv_bipush (v := 7) hx hb dL_law_21 (by decide) ?_
    refine lv_isub hx hb dL_law_23 ?_
    refine lv_icmp_gt (tgt := 1034) hx hb dL_law_24 (by decide) (fun h24 => ?_) (fun h24 => ?_)
    · refine lv_iconst (v := 1) hx hb dL_law_1034 (by decide) ?_
      refine va_forget (fun q hq => hS.2.2 q hq) ?_
      exact lw_ret hx hb hr hlocks dL_law_1035
    · have hi := lw_le (by omega) (by omega) h24
      refine lv_aload_n hx hb dL_law_27 rfl (lv_at hl 3 rfl) ?_
      refine lv_iload_n hx hb dL_law_28 rfl (lv_at hl 0 rfl) ?_
      refine va_sld hx hb hX hbl hbA hS (vp_in_nI (show i < L by omega) (by omega)) dL_law_29 ?_
      refine lv_bipush (v := 31) hx hb dL_law_30 (by decide) ?_
      refine lv_iand hx hb dL_law_32 ?_
      exact law_33 C0 hLn hK hN hi (law_1028 C0 hLn hK hN hi (ih (i + 7) hi (by omega))) _ bf ln hln G n hn lg lp k hk rd np hp hG hL hpw hR R M H locs hP hD hS ls hl
end LAWL
