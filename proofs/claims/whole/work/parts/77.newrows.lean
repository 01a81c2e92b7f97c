/-! what is made: rows of ints and of longs, constructors called -/
section RWN
variable {p : Program} {l : Launch} {e : Env} {R : Room} {s : State} {m : MethodId} {args : Array Value} {below : List Frame} {meth : Method} {c : Code} {H : Heap} {locs : List Loc} {cells slots : Nat} {Q : State → Prop}
variable {cc : ByteArray} {pc : Nat} {ls : Array Slot} {rest : List Value} {D : va_G} {cl : List vw_C} {A : Nat → Prop} {ws : va_W} {H0 : Heap} {cI cJ : ClassId}
theorem nw_i (hexec : p.tables.exec = Jvm.exec) (hb : c.code = cc) (harr : (Cond.arrayClass .int).before args s = true) (hK : va_K D cl (tyK cI cJ) s) (hP : va_P D cl ws H) (hD : va_D A ws) (hS : va_S A H0 H locs) (hA : ∀ q, H0.size ≤ q → A q)
    {n : Int32} {N : Nat} (hn : ¬ n < 0) (hN : n.toNatClampNeg = N) (hbytes : N * componentBytes .int ≤ 536870912) (hcells : cells + 1 ≤ R.cells) (hslots : slots + N ≤ R.slots) (hdg : decode cc pc = .ok (.newarray .int, 2))
    (kk : ∀ (q : Nat) (H1 : Heap), va_P D cl (ws ++ [(q, .inl (cI, N, .inl (fun _ => 0)))]) H1 → va_D A (ws ++ [(q, .inl (cI, N, .inl (fun _ => 0)))]) → va_S A H0 H1 locs →
      W p l e R s m args below meth c H1 locs (cells + 1) (slots + N) Q (F0 m (pc + 2) ls (.ref q :: rest))) : W p l e R s m args below meth c H locs cells slots Q (F0 m pc ls (.int n :: rest)) := by
  refine va_newa (atype := .int) (ty := .int) (a0 := (N, .inl (fun _ => 0))) hexec hb harr rfl hK hP hD hS hA (fun cA => rfl) hn hN hbytes hcells hslots hdg (fun q cA H1 hK1 hP hD hS => ?_)
  have a := va_nm_int (hK.2 0 _ rfl).2
  have b := va_nm_int (hK1.2 2 _ rfl).2
  rw [a] at b
  have e1 : cA = cI := (Option.some.inj b).symm
  subst e1
  exact kk q H1 hP hD hS
theorem nw_l (hexec : p.tables.exec = Jvm.exec) (hb : c.code = cc) (harr : (Cond.arrayClass .long).before args s = true) (hK : va_K D cl (tyK cI cJ) s) (hP : va_P D cl ws H) (hD : va_D A ws) (hS : va_S A H0 H locs) (hA : ∀ q, H0.size ≤ q → A q)
    {n : Int32} {N : Nat} (hn : ¬ n < 0) (hN : n.toNatClampNeg = N) (hbytes : N * componentBytes .long ≤ 536870912) (hcells : cells + 1 ≤ R.cells) (hslots : slots + N ≤ R.slots) (hdg : decode cc pc = .ok (.newarray .long, 2))
    (kk : ∀ (q : Nat) (H1 : Heap), va_P D cl (ws ++ [(q, .inl (cJ, N, .inr (.inl (fun _ => 0))))]) H1 → va_D A (ws ++ [(q, .inl (cJ, N, .inr (.inl (fun _ => 0))))]) → va_S A H0 H1 locs →
      W p l e R s m args below meth c H1 locs (cells + 1) (slots + N) Q (F0 m (pc + 2) ls (.ref q :: rest))) : W p l e R s m args below meth c H locs cells slots Q (F0 m pc ls (.int n :: rest)) := by
  refine va_newa (atype := .long) (ty := .long) (a0 := (N, .inr (.inl (fun _ => 0)))) hexec hb harr rfl hK hP hD hS hA (fun cA => rfl) hn hN hbytes hcells hslots hdg (fun q cA H1 hK1 hP hD hS => ?_)
  have a := va_nm_long (hK.2 1 _ rfl).2
  have b := va_nm_long (hK1.2 2 _ rfl).2
  rw [a] at b
  have e1 : cA = cJ := (Option.some.inj b).symm
  subst e1
  exact kk q H1 hP hD hS
variable {y : MethodName} {bytes : ByteArray} {maxL nL n index b : Nat} {wsy : List Cond} {rm : Room} {Ts : List Cond} {own host : String} {tys : List (ClassId × FieldType)} {wc wb wr : va_W} {mc ms : Nat} {As st0 : List Value} {A0 : Nat → Prop}
theorem muIN {S' : Type} {post : S' → Prop} {w1 : S' → va_W} (hM : Met l y wsy rm (va_Pc (Value.ref b :: As) (MU D tys wc H.size)) (va_Qv post (MB D wc H.size w1) (va_A wc H.size)) mc ms (va_A wc H.size)) (S : CallFix p m c cc nL s args Ts own) (cw : va_CN R s args own index y host bytes maxL none wsy rm mc ms n) (hy : y.name = "<init>") (hin : (Cond.instanceMethod y).before args s = true) (hP : va_P D vwCl wb H) (hD : va_D A0 wb) (hS : va_S A0 H0 H locs) (hA : ∀ q, H0.size ≤ q → A0 q) (hK : va_K D vwCl tys s) (hN : NW s) (isC isR : List Nat) (hC : isC.map (fun i => wb[i]?) = wc.map some) (hC2 : isC.filterMap (fun i => wb[i]?) = wc) (hCn : va_nd isC = true) (hR : isR.map (fun i => wb[i]?) = wr.map some) (hRn : va_nd isR = true) (hdis : ∀ i ∈ isR, i ∉ isC)
    (hn : As.length = n) (hsize : ls.size = nL) (hst : st0 = As.reverse ++ .ref b :: rest) (hW : (rest.map fun v => v.category).sum ≤ 8) (hdg : decode cc pc = .ok (.invokespecial index, 3)) (hf : cells + mc ≤ R.cells ∧ slots + ms ≤ R.slots)
    (kk : ∀ (u : S') (H1 : Heap) (locs1 : List Loc), post u → va_P D vwCl (wr ++ w1 u) H1 → va_D A0 (wr ++ w1 u) → va_S A0 H0 H1 locs1 → W p l e R s m args below meth c H1 locs1 (cells + mc) (slots + ms) Q (F0 m (pc + 3) ls rest)) : W p l e R s m args below meth c H locs cells slots Q (F0 m pc ls st0) := by
  have hPc := hP.sub isC hC2
  have hDc := hD.sub isC hCn hC
  have hFc := va_free hD hS hA isC hC
  refine va_callv (va_runIN (g := F0 m pc ls st0) S hM ⟨cw, hy, hin⟩ ⟨MU.blind, MU.pre hPc hK hN hDc _⟩ rfl hn hsize hst (lv_room hW) hdg hf) hS (fun q _ h => hFc q h) hFc (fun u t H1 locs ht hvm hw hB hz1 hk1 hS => ?_)
  obtain ⟨hP1, hD1⟩ := hB
  rw [ht] at hP1
  obtain ⟨hP, hD⟩ := va_join hP hD isC isR hC hR hRn hdis hk1 hFc hP1 hD1
  exact kk u H1 locs hw hP hD hS
theorem muI {S' : Type} {post : S' → Prop} {w1 : S' → va_W} (hM : Met l y wsy rm (va_Pc (Value.ref b :: As) (MU D tys wc H.size)) (va_Qv post (MB D wc H.size w1) (va_A wc H.size)) mc ms (va_A wc H.size)) (S : CallFix p m c cc nL s args Ts own) (cw : CallB R s args own index y bytes maxL none wsy rm mc ms n ∧ y.name = "<init>" ∧ (Cond.instanceMethod y).before args s = true) (hP : va_P D vwCl wb H) (hD : va_D A0 wb) (hS : va_S A0 H0 H locs) (hA : ∀ q, H0.size ≤ q → A0 q) (hK : va_K D vwCl tys s) (hN : NW s) (isC isR : List Nat) (hC : isC.map (fun i => wb[i]?) = wc.map some) (hC2 : isC.filterMap (fun i => wb[i]?) = wc) (hCn : va_nd isC = true) (hR : isR.map (fun i => wb[i]?) = wr.map some) (hRn : va_nd isR = true) (hdis : ∀ i ∈ isR, i ∉ isC)
    (hn : As.length = n) (hsize : ls.size = nL) (hst : st0 = As.reverse ++ .ref b :: rest) (hW : (rest.map fun v => v.category).sum ≤ 8) (hdg : decode cc pc = .ok (.invokespecial index, 3)) (hf : cells + mc ≤ R.cells ∧ slots + ms ≤ R.slots)
    (kk : ∀ (u : S') (H1 : Heap) (locs1 : List Loc), post u → va_P D vwCl (wr ++ w1 u) H1 → va_D A0 (wr ++ w1 u) → va_S A0 H0 H1 locs1 → W p l e R s m args below meth c H1 locs1 (cells + mc) (slots + ms) Q (F0 m (pc + 3) ls rest)) : W p l e R s m args below meth c H locs cells slots Q (F0 m pc ls st0) := by
  have hPc := hP.sub isC hC2
  have hDc := hD.sub isC hCn hC
  have hFc := va_free hD hS hA isC hC
  refine va_callv (va_runI (g := F0 m pc ls st0) S hM cw ⟨MU.blind, MU.pre hPc hK hN hDc _⟩ rfl hn hsize hst (lv_room hW) hdg hf) hS (fun q _ h => hFc q h) hFc (fun u t H1 locs ht hvm hw hB hz1 hk1 hS => ?_)
  obtain ⟨hP1, hD1⟩ := hB
  rw [ht] at hP1
  obtain ⟨hP, hD⟩ := va_join hP hD isC isR hC hR hRn hdis hk1 hFc hP1 hD1
  exact kk u H1 locs hw hP hD hS
end RWN
/-- an empty catalogue -/
abbrev G0 : GL := (fun _ => 0, fun _ => 0, fun _ => 0, fun _ => 0)
theorem ilv_00 : ilv G0 = fun _ => 0 := by
  funext j
  unfold ilv
  split
  · rfl
  · split <;> rfl
