/-! the nest's words, worlds that are only read, worlds that are written, calls of both kinds -/
def nwL : List Cond := [.fieldLinkNest "AchromatDesk" 46 "AchromatDesk$GlassText" "length" "I" "AchromatDesk", .fieldLinkNest "AchromatDesk$DoubletRanking" 32 "AchromatDesk$Catalogue" "count" "I" "AchromatDesk", .fieldLinkNest "AchromatDesk" 77 "AchromatDesk$Catalogue" "count" "I" "AchromatDesk", .fieldLinkNest "AchromatDesk" 161 "AchromatDesk$DoubletRanking" "count" "I" "AchromatDesk", .fieldLinkNest "AchromatDesk" 178 "AchromatDesk$LensSystem" "count" "I" "AchromatDesk", .fieldLinkNest "AchromatDesk" 204 "AchromatDesk$PlateSet" "count" "I" "AchromatDesk", .methodLinkNest "AchromatDesk" 11 yX2_init "AchromatDesk", .methodLinkNest "AchromatDesk" 18 yX0_init "AchromatDesk", .methodLinkNest "AchromatDesk" 25 yX1_init "AchromatDesk", .methodLinkNest "AchromatDesk" 32 yX3_init "AchromatDesk", .methodLinkNest "AchromatDesk" 39 yX4_init "AchromatDesk", .methodLinkNest "AchromatDesk$Catalogue" 42 yX5_floorQuotient "AchromatDesk", .methodLinkNest "AchromatDesk$LensSystem" 44 yX5_floorQuotient "AchromatDesk"]
def NW (U : State) : Prop := ∀ w ∈ nwL, va_Nw w U
theorem nwL_tbl : ∀ w ∈ nwL, w ∈ lw_tbl := by decide +kernel
theorem nwL_on : ∀ w ∈ nwL, w.onTables = true := by decide +kernel
theorem NW.at {U : State} (h : NW U) (k : Nat) {w : Cond} (hk : nwL[k]? = some w) : va_Nw w U := h w (List.mem_of_getElem? hk)
theorem NW.same {u U : State} (h : u.vm = U.vm) (hN : NW u) : NW U := fun w hw => va_Nw.same (nwL_on w hw) h (hN w hw)
theorem NW.warm {s U : State} (hW : s.WarmedH U.vm) (hN : NW s) : NW U := by
  have hN' : ∀ w ∈ nwL, va_Nw w s := hN
  show ∀ w ∈ nwL, va_Nw w U
  unfold nwL at hN' ⊢
  simp only [List.forall_mem_cons] at hN' ⊢
  obtain ⟨h0, h1, h2, h3, h4, h5, h6, h7, h8, h9, h10, h11, h12, -⟩ := hN'
  exact ⟨va_Nw.warmF hW h0, va_Nw.warmF hW h1, va_Nw.warmF hW h2, va_Nw.warmF hW h3, va_Nw.warmF hW h4, va_Nw.warmF hW h5, va_Nw.warmM hW h6, va_Nw.warmM hW h7, va_Nw.warmM hW h8, va_Nw.warmM hW h9, va_Nw.warmM hW h10, va_Nw.warmM hW h11, va_Nw.warmM hW h12, fun w h => absurd h List.not_mem_nil⟩
abbrev tyK (cI cJ : ClassId) : List (ClassId × FieldType) := [(cI, .int), (cJ, .long)]
/-- a world that is only read -/
def RO (D : va_G) (tys : List (ClassId × FieldType)) (wc : va_W) (U : State) : Prop := va_P D vwCl wc U.heap ∧ va_K D vwCl tys U ∧ NW U
/-- a world that is written -/
def MU (D : va_G) (tys : List (ClassId × FieldType)) (wc : va_W) (sz : Nat) (U : State) : Prop := U.heap.size = sz ∧ va_P D vwCl wc U.heap ∧ va_K D vwCl tys U ∧ NW U ∧ va_D (fun _ => True) wc
/-- what is left behind a method that writes -/
abbrev MB (D : va_G) (wc : va_W) (sz : Nat) {S : Type} (w1 : S → va_W) : S → State → Prop := fun u t => va_P D vwCl (w1 u) t.heap ∧ va_D (va_A wc sz) (w1 u)
theorem RO.blind {D : va_G} {tys : List (ClassId × FieldType)} {wc : va_W} {av : List Value} : FrameBlind (va_Pc av (RO D tys wc)) := fun a U g mk q => by
  obtain ⟨q0, qP, qK, qN⟩ := q
  exact ⟨q0, qP, va_K.moved (u := U) (U := U.calling g mk a) (Vm.Alike.refl U.vm) qK, NW.same (u := U) (U := U.calling g mk a) rfl qN⟩
theorem MU.blind {D : va_G} {tys : List (ClassId × FieldType)} {wc : va_W} {sz : Nat} {av : List Value} : FrameBlind (va_Pc av (MU D tys wc sz)) := fun a U g mk q => by
  obtain ⟨q0, q1, qP, qK, qN, qD⟩ := q
  exact ⟨q0, q1, qP, va_K.moved (u := U) (U := U.calling g mk a) (Vm.Alike.refl U.vm) qK, NW.same (u := U) (U := U.calling g mk a) rfl qN, qD⟩
theorem T.blind {av : List Value} : FrameBlind (va_Pc av (fun _ => True)) := fun a U g mk q => ⟨q.1, trivial⟩
theorem RO.pre {D : va_G} {tys : List (ClassId × FieldType)} {wc : va_W} {s : State} {H : Heap} (hP : va_P D vwCl wc H) (hK : va_K D vwCl tys s) (hN : NW s) (av : List Value) : ∀ U : State, U.heap = H → s.WarmedH U.vm → va_Pc av (RO D tys wc) av.toArray U := fun U hU hW => ⟨rfl, by rw [hU]; exact hP, va_K.moved hW.alike hK, NW.warm hW hN⟩
theorem MU.pre {D : va_G} {tys : List (ClassId × FieldType)} {wc : va_W} {A : Nat → Prop} {s : State} {H : Heap} (hP : va_P D vwCl wc H) (hK : va_K D vwCl tys s) (hN : NW s) (hD : va_D A wc) (av : List Value) : ∀ U : State, U.heap = H → s.WarmedH U.vm → va_Pc av (MU D tys wc H.size) av.toArray U := fun U hU hW => ⟨rfl, by rw [hU], by rw [hU]; exact hP, va_K.moved hW.alike hK, NW.warm hW hN, hD.weaken (fun _ _ _ _ => trivial)⟩
section RWC
variable {p : Program} {l : Launch} {e : Env} {R : Room} {s : State} {m : MethodId} {args : Array Value} {below : List Frame} {meth : Method} {c : Code} {H : Heap} {locs : List Loc} {cells slots : Nat} {Q : State → Prop}
variable {cc : ByteArray} {pc : Nat} {ls : Array Slot} {rest st0 As : List Value}
variable {y : MethodName} {bytes : ByteArray} {maxL nL n index b : Nat} {ret : Option FieldType} {ws : List Cond} {rm : Room} {Ts : List Cond} {own C host : String} {D : va_G} {tys : List (ClassId × FieldType)} {wc : va_W}
/-- a call of a method of an object that only reads -/
theorem roVl {post : Int64 → Prop} (hM : Met l y ws rm (va_Pc (Value.ref b :: As) (RO D tys wc)) (vp_Sl post) 0 0 (fun _ => False)) (S : CallFix p m c cc nL s args Ts own) (cw : CallW R s args own C index y bytes maxL ret ws rm 0 0 n) (hP : va_P D vwCl wc H) (hK : va_K D vwCl tys s) (hN : NW s) {ci N : Nat} {T : u_T} {fs : List Value} (hc : vwCl[ci]? = some (C, T, N)) (he : wc[0]? = some (b, .inr (ci, fs)))
    (hn : As.length = n) (hsize : ls.size = nL) (hst : st0 = As.reverse ++ .ref b :: rest) (hW : (rest.map fun v => v.category).sum ≤ 8) (hdg : decode cc pc = .ok (.invokevirtual index, 3)) (hf : cells ≤ R.cells ∧ slots ≤ R.slots)
    (kk : ∀ r : Int64, post r → W p l e R s m args below meth c H locs cells slots Q (F0 m (pc + 3) ls (.long r :: rest))) : W p l e R s m args below meth c H locs cells slots Q (F0 m pc ls st0) :=
  vp_callSl (va_Run.run (va_runV (g := F0 m pc ls st0) S hM cw ⟨RO.blind, va_recv hK hP hc he, RO.pre hP hK hN _⟩ rfl hn hsize hst (lv_room hW) hdg hf)) kk
theorem roVi {post : Int32 → Prop} (hM : Met l y ws rm (va_Pc (Value.ref b :: As) (RO D tys wc)) (vp_Si post) 0 0 (fun _ => False)) (S : CallFix p m c cc nL s args Ts own) (cw : CallW R s args own C index y bytes maxL ret ws rm 0 0 n) (hP : va_P D vwCl wc H) (hK : va_K D vwCl tys s) (hN : NW s) {ci N : Nat} {T : u_T} {fs : List Value} (hc : vwCl[ci]? = some (C, T, N)) (he : wc[0]? = some (b, .inr (ci, fs)))
    (hn : As.length = n) (hsize : ls.size = nL) (hst : st0 = As.reverse ++ .ref b :: rest) (hW : (rest.map fun v => v.category).sum ≤ 8) (hdg : decode cc pc = .ok (.invokevirtual index, 3)) (hf : cells ≤ R.cells ∧ slots ≤ R.slots)
    (kk : ∀ r : Int32, post r → W p l e R s m args below meth c H locs cells slots Q (F0 m (pc + 3) ls (.int r :: rest))) : W p l e R s m args below meth c H locs cells slots Q (F0 m pc ls st0) :=
  vp_callSi (va_Run.run (va_runV (g := F0 m pc ls st0) S hM cw ⟨RO.blind, va_recv hK hP hc he, RO.pre hP hK hN _⟩ rfl hn hsize hst (lv_room hW) hdg hf)) kk
/-- a call of a static method that needs no world -/
theorem stSl {post : Int64 → Prop} (hM : Met l y ws rm (va_Pc As (fun _ => True)) (vp_Sl post) 0 0 (fun _ => False)) (S : CallFix p m c cc nL s args Ts own) (cw : CallB R s args own index y bytes maxL ret ws rm 0 0 n ∧ (Cond.static y).before args s = true)
    (hn : As.length = n) (hsize : ls.size = nL) (hst : st0 = As.reverse ++ rest) (hW : (rest.map fun v => v.category).sum ≤ 8) (hdg : decode cc pc = .ok (.invokestatic index, 3)) (hf : cells ≤ R.cells ∧ slots ≤ R.slots)
    (kk : ∀ r : Int64, post r → W p l e R s m args below meth c H locs cells slots Q (F0 m (pc + 3) ls (.long r :: rest))) : W p l e R s m args below meth c H locs cells slots Q (F0 m pc ls st0) :=
  vp_callSl (va_Run.run (va_runS (g := F0 m pc ls st0) S hM cw ⟨T.blind, fun U hU hW => ⟨rfl, trivial⟩⟩ rfl hn hsize hst (lv_room hW) hdg hf)) kk
theorem stSi {post : Int32 → Prop} (hM : Met l y ws rm (va_Pc As (fun _ => True)) (vp_Si post) 0 0 (fun _ => False)) (S : CallFix p m c cc nL s args Ts own) (cw : CallB R s args own index y bytes maxL ret ws rm 0 0 n ∧ (Cond.static y).before args s = true)
    (hn : As.length = n) (hsize : ls.size = nL) (hst : st0 = As.reverse ++ rest) (hW : (rest.map fun v => v.category).sum ≤ 8) (hdg : decode cc pc = .ok (.invokestatic index, 3)) (hf : cells ≤ R.cells ∧ slots ≤ R.slots)
    (kk : ∀ r : Int32, post r → W p l e R s m args below meth c H locs cells slots Q (F0 m (pc + 3) ls (.int r :: rest))) : W p l e R s m args below meth c H locs cells slots Q (F0 m pc ls st0) :=
  vp_callSi (va_Run.run (va_runS (g := F0 m pc ls st0) S hM cw ⟨T.blind, fun U hU hW => ⟨rfl, trivial⟩⟩ rfl hn hsize hst (lv_room hW) hdg hf)) kk
/-- the same, of a nest mate's private method -/
theorem nsSl {post : Int64 → Prop} (hM : Met l y ws rm (va_Pc As (fun _ => True)) (vp_Sl post) 0 0 (fun _ => False)) (S : CallFix p m c cc nL s args Ts own) (cw : va_CN R s args own index y host bytes maxL ret ws rm 0 0 n) (hstt : (Cond.static y).before args s = true)
    (hn : As.length = n) (hsize : ls.size = nL) (hst : st0 = As.reverse ++ rest) (hW : (rest.map fun v => v.category).sum ≤ 8) (hdg : decode cc pc = .ok (.invokestatic index, 3)) (hf : cells ≤ R.cells ∧ slots ≤ R.slots)
    (kk : ∀ r : Int64, post r → W p l e R s m args below meth c H locs cells slots Q (F0 m (pc + 3) ls (.long r :: rest))) : W p l e R s m args below meth c H locs cells slots Q (F0 m pc ls st0) :=
  vp_callSl (va_Run.run (va_runSN (g := F0 m pc ls st0) S hM ⟨cw, hstt, trivial⟩ ⟨T.blind, fun U hU hW => ⟨rfl, trivial⟩⟩ rfl hn hsize hst (lv_room hW) hdg hf)) kk
variable {A0 : Nat → Prop} {H0 : Heap} {wb wr : va_W} {mc ms : Nat}
/-- a call of a method of an object that writes: its cells come back behind the others -/
theorem muVl {S' : Type} {post : Int64 → S' → Prop} {w1 : S' → va_W} (hM : Met l y ws rm (va_Pc (Value.ref b :: As) (MU D tys wc H.size)) (va_Ql post (MB D wc H.size w1) (va_A wc H.size)) mc ms (va_A wc H.size)) (S : CallFix p m c cc nL s args Ts own) (cw : CallW R s args own C index y bytes maxL ret ws rm mc ms n) (hP : va_P D vwCl wb H) (hD : va_D A0 wb) (hS : va_S A0 H0 H locs) (hA : ∀ q, H0.size ≤ q → A0 q) (hK : va_K D vwCl tys s) (hN : NW s) (isC isR : List Nat) (hC : isC.map (fun i => wb[i]?) = wc.map some) (hC2 : isC.filterMap (fun i => wb[i]?) = wc) (hCn : va_nd isC = true) (hR : isR.map (fun i => wb[i]?) = wr.map some) (hRn : va_nd isR = true) (hdis : ∀ i ∈ isR, i ∉ isC) {ci N : Nat} {T : u_T} {fs : List Value} (hc : vwCl[ci]? = some (C, T, N)) (he : wc[0]? = some (b, .inr (ci, fs)))
    (hn : As.length = n) (hsize : ls.size = nL) (hst : st0 = As.reverse ++ .ref b :: rest) (hW : (rest.map fun v => v.category).sum ≤ 8) (hdg : decode cc pc = .ok (.invokevirtual index, 3)) (hf : cells + mc ≤ R.cells ∧ slots + ms ≤ R.slots)
    (kk : ∀ (r : Int64) (u : S') (H1 : Heap) (locs1 : List Loc), post r u → va_P D vwCl (wr ++ w1 u) H1 → va_D A0 (wr ++ w1 u) → va_S A0 H0 H1 locs1 → W p l e R s m args below meth c H1 locs1 (cells + mc) (slots + ms) Q (F0 m (pc + 3) ls (.long r :: rest))) : W p l e R s m args below meth c H locs cells slots Q (F0 m pc ls st0) := by
  have hPc := hP.sub isC hC2
  have hDc := hD.sub isC hCn hC
  have hFc := va_free hD hS hA isC hC
  refine va_calll (va_runV (g := F0 m pc ls st0) S hM cw ⟨MU.blind, va_recv hK hPc hc he, MU.pre hPc hK hN hDc _⟩ rfl hn hsize hst (lv_room hW) hdg hf) hS (fun q _ h => hFc q h) hFc (fun r u t H1 locs ht hvm hw hB hz1 hk1 hS => ?_)
  obtain ⟨hP1, hD1⟩ := hB
  rw [ht] at hP1
  obtain ⟨hP, hD⟩ := va_join hP hD isC isR hC hR hRn hdis hk1 hFc hP1 hD1
  exact kk r u H1 locs hw hP hD hS
theorem muVi {S' : Type} {post : Int32 → S' → Prop} {w1 : S' → va_W} (hM : Met l y ws rm (va_Pc (Value.ref b :: As) (MU D tys wc H.size)) (va_Qi post (MB D wc H.size w1) (va_A wc H.size)) mc ms (va_A wc H.size)) (S : CallFix p m c cc nL s args Ts own) (cw : CallW R s args own C index y bytes maxL ret ws rm mc ms n) (hP : va_P D vwCl wb H) (hD : va_D A0 wb) (hS : va_S A0 H0 H locs) (hA : ∀ q, H0.size ≤ q → A0 q) (hK : va_K D vwCl tys s) (hN : NW s) (isC isR : List Nat) (hC : isC.map (fun i => wb[i]?) = wc.map some) (hC2 : isC.filterMap (fun i => wb[i]?) = wc) (hCn : va_nd isC = true) (hR : isR.map (fun i => wb[i]?) = wr.map some) (hRn : va_nd isR = true) (hdis : ∀ i ∈ isR, i ∉ isC) {ci N : Nat} {T : u_T} {fs : List Value} (hc : vwCl[ci]? = some (C, T, N)) (he : wc[0]? = some (b, .inr (ci, fs)))
    (hn : As.length = n) (hsize : ls.size = nL) (hst : st0 = As.reverse ++ .ref b :: rest) (hW : (rest.map fun v => v.category).sum ≤ 8) (hdg : decode cc pc = .ok (.invokevirtual index, 3)) (hf : cells + mc ≤ R.cells ∧ slots + ms ≤ R.slots)
    (kk : ∀ (r : Int32) (u : S') (H1 : Heap) (locs1 : List Loc), post r u → va_P D vwCl (wr ++ w1 u) H1 → va_D A0 (wr ++ w1 u) → va_S A0 H0 H1 locs1 → W p l e R s m args below meth c H1 locs1 (cells + mc) (slots + ms) Q (F0 m (pc + 3) ls (.int r :: rest))) : W p l e R s m args below meth c H locs cells slots Q (F0 m pc ls st0) := by
  have hPc := hP.sub isC hC2
  have hDc := hD.sub isC hCn hC
  have hFc := va_free hD hS hA isC hC
  refine va_calli (va_runV (g := F0 m pc ls st0) S hM cw ⟨MU.blind, va_recv hK hPc hc he, MU.pre hPc hK hN hDc _⟩ rfl hn hsize hst (lv_room hW) hdg hf) hS (fun q _ h => hFc q h) hFc (fun r u t H1 locs ht hvm hw hB hz1 hk1 hS => ?_)
  obtain ⟨hP1, hD1⟩ := hB
  rw [ht] at hP1
  obtain ⟨hP, hD⟩ := va_join hP hD isC isR hC hR hRn hdis hk1 hFc hP1 hD1
  exact kk r u H1 locs hw hP hD hS
theorem muVv {S' : Type} {post : S' → Prop} {w1 : S' → va_W} (hM : Met l y ws rm (va_Pc (Value.ref b :: As) (MU D tys wc H.size)) (va_Qv post (MB D wc H.size w1) (va_A wc H.size)) mc ms (va_A wc H.size)) (S : CallFix p m c cc nL s args Ts own) (cw : CallW R s args own C index y bytes maxL ret ws rm mc ms n) (hP : va_P D vwCl wb H) (hD : va_D A0 wb) (hS : va_S A0 H0 H locs) (hA : ∀ q, H0.size ≤ q → A0 q) (hK : va_K D vwCl tys s) (hN : NW s) (isC isR : List Nat) (hC : isC.map (fun i => wb[i]?) = wc.map some) (hC2 : isC.filterMap (fun i => wb[i]?) = wc) (hCn : va_nd isC = true) (hR : isR.map (fun i => wb[i]?) = wr.map some) (hRn : va_nd isR = true) (hdis : ∀ i ∈ isR, i ∉ isC) {ci N : Nat} {T : u_T} {fs : List Value} (hc : vwCl[ci]? = some (C, T, N)) (he : wc[0]? = some (b, .inr (ci, fs)))
    (hn : As.length = n) (hsize : ls.size = nL) (hst : st0 = As.reverse ++ .ref b :: rest) (hW : (rest.map fun v => v.category).sum ≤ 8) (hdg : decode cc pc = .ok (.invokevirtual index, 3)) (hf : cells + mc ≤ R.cells ∧ slots + ms ≤ R.slots)
    (kk : ∀ (u : S') (H1 : Heap) (locs1 : List Loc), post u → va_P D vwCl (wr ++ w1 u) H1 → va_D A0 (wr ++ w1 u) → va_S A0 H0 H1 locs1 → W p l e R s m args below meth c H1 locs1 (cells + mc) (slots + ms) Q (F0 m (pc + 3) ls rest)) : W p l e R s m args below meth c H locs cells slots Q (F0 m pc ls st0) := by
  have hPc := hP.sub isC hC2
  have hDc := hD.sub isC hCn hC
  have hFc := va_free hD hS hA isC hC
  refine va_callv (va_runV (g := F0 m pc ls st0) S hM cw ⟨MU.blind, va_recv hK hPc hc he, MU.pre hPc hK hN hDc _⟩ rfl hn hsize hst (lv_room hW) hdg hf) hS (fun q _ h => hFc q h) hFc (fun u t H1 locs ht hvm hw hB hz1 hk1 hS => ?_)
  obtain ⟨hP1, hD1⟩ := hB
  rw [ht] at hP1
  obtain ⟨hP, hD⟩ := va_join hP hD isC isR hC hR hRn hdis hk1 hFc hP1 hD1
  exact kk u H1 locs hw hP hD hS
end RWC
