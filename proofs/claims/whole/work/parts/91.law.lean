/-! THE CLAIM OUT OF ONE WALK OF THE LAW'S BODY. Your part is whole_start (and what it stands on); all else here is the same for every law, but numbers. -/
def R_law : String := "AchromatDeskLaw"
def lw_P (b : Addr) (xs : List Int32) (args : Array Value) (s : State) : Prop := args = #[.ref b] ∧ s.IntsAt b xs ∧ xs.length ≤ 3584 ∧ (Jvm.Cond.and given_1 narrow_1).before args s = true
def lw_Q (_ : Array Value) (s : State) (o : Outcome) (t : State) : Prop := o = .returned (some (.int 1)) ∧ Framed s o t [] 28 1277
def lw_Z (below : List Frame) (a : Array Value) (s : State) : State → Prop := fun t => ∃ o, t.status = .running ∧ Ended t below o ∧ lw_Q a s o t
/-- the law's own end, with 1 on the stack, nothing written that was there before, its room as the claim has it -/
theorem lw_ret {p : Program} {l : Launch} {e : Env} {s : State} {m : MethodId} {below : List Frame} {meth : Method} {c : Code} {b : Nat} (hx : p.tables.exec = Jvm.exec) (hb : c.code = code) (hr : meth.sig.returnType = ret) (hlocks : meth.locks = false) {pc : Nat} {H : Heap} {ls : Array Slot} (hdg : decode code pc = .ok (.ireturn, 1)) : W p l e room_1 s m #[Value.ref b] below meth c H [] 28 1277 (lw_Z below #[Value.ref b] s) (F0 m pc ls [.int 1]) := by
  intro T hT X
  obtain ⟨fs, hret, hrun, hended, hW, hframe⟩ := X.leave (v := some (.int 1)) (hlocks := hlocks) (fun h => by rw [hr] at h; cases h)
  have hmeth' : T.vm.method? m = some meth := X.method'
  refine ⟨T.setFrames fs, ?_, .returned (some (.int 1)), hrun, hended, rfl, ⟨_, rfl⟩, hW, hframe⟩
  jvm_step X.here [X.here.top, hx, hb, hdg, hmeth', hr, ret, narrow_b1]
  (try refine ⟨rfl, ?_⟩); (try refine ⟨rfl, ?_⟩)
  first | (intro acts; rw [hret _ acts rfl rfl rfl]) | rw [hret _ _ rfl rfl rfl]
  exact Steps.refl _
/-- what holds at the law's entry: the machine, the code, the tables' words (any of lw_tbl by 'hts w (by decide +kernel)'), the script of L ints xs at the cell b, what the Statement gives of the start (any of its parts by flat_of_before) -/
def lw_At (p : Program) (s : State) (m : MethodId) (meth : Method) (c : Code) (b L : Nat) (xs : Nat → Int32) : Prop :=
  p.tables.exec = Jvm.exec ∧ c.code = code ∧ meth.sig.returnType = ret ∧ c.maxLocals = 4 ∧ s.vm.findClass R_law = some m.cls ∧ (∀ w ∈ lw_tbl, w.before #[Value.ref b] s = true) ∧ va_X b L xs s s.heap ∧ b < s.heap.size ∧ meth.locks = false ∧ (Jvm.Cond.and given_1 narrow_1).before #[Value.ref b] s = true

abbrev lwA (s : State) : Nat → Prop := fun q => s.heap.size ≤ q
/-- the law at pc, with the script read up to i, for every state that both hold alike -/
def LC (p : Program) (l : Launch) (e : Env) (s : State) (m : MethodId) (below : List Frame) (meth : Method) (c : Code) (b : Nat) (dC : Nat → ClassId) (dI : Nat → Nat → Nat) (cI cJ : ClassId) (q a : Nat → Nat) (pc i : Nat) : Prop := ∀ (bf : Nat → Int32) (ln : Nat) (_ : ln ≤ 28) (G : GL) (n : Nat) (_ : n ≤ 20) (lg lp : Nat → Int32) (k : Nat) (_ : k ≤ 8) (rd : Nat → Int32) (np : Nat) (_ : np ≤ 16) (_ : gOK G n) (_ : lOK lg k n) (_ : pOK lp k) (_ : rOK rd np) (R : RS) (M : MS) (H : Heap) (locs : List Loc) (_ : va_P (dC, dI) vwCl [(q 0, .inr (5, [.ref (q 1), .ref (q 3), .ref (q 8), .ref (q 14), .ref (q 17)])), (q 1, .inr (2, [.ref (q 2), .int (nI ln)])), (q 2, .inl (cI, 28, .inl bf)), (q 3, .inr (0, [.ref (q 4), .ref (q 5), .ref (q 6), .ref (q 7), .int (nI n)])), (q 4, .inl (cJ, 20, .inr (.inl (gK G)))), (q 5, .inl (cI, 20, .inl (gF G))), (q 6, .inl (cI, 20, .inl (gD G))), (q 7, .inl (cI, 20, .inl (gC G))), (q 8, .inr (1, [.ref (q 9), .ref (q 10), .ref (q 11), .ref (q 12), .ref (q 13), .int (nI R.1.1)])), (q 9, .inl (cI, 190, .inl R.1.2.1)), (q 10, .inl (cJ, 190, .inr (.inl R.1.2.2.1))), (q 11, .inl (cJ, 190, .inr (.inl R.1.2.2.2.1))), (q 12, .inl (cJ, 190, .inr (.inl R.1.2.2.2.2))), (q 13, .inl (cI, 190, .inl R.2)), (q 14, .inr (3, [.ref (q 15), .ref (q 16), .int (nI k)])), (q 15, .inl (cI, 8, .inl lg)), (q 16, .inl (cI, 8, .inl lp)), (q 17, .inr (4, [.ref (q 18), .int (nI np)])), (q 18, .inl (cI, 16, .inl rd)), (a 0, .inr (6, [.int (nI ln), .ref (a 1), .int (nI n), .ref (a 2), .ref (a 3), .int (nI k), .ref (a 4), .ref (a 5), .int (nI np), .ref (a 6), .long M.1, .ref (a 7), .int M.2.1, .int M.2.2.1, .int M.2.2.2.1, .int M.2.2.2.2.1, .ref (a 8), .long M.2.2.2.2.2.1])), (a 1, .inl (cI, 28, .inl bf)), (a 2, .inl (cJ, 20, .inr (.inl (gK G)))), (a 3, .inl (cI, 60, .inl (ilv G))), (a 4, .inl (cI, 8, .inl lg)), (a 5, .inl (cI, 8, .inl lp)), (a 6, .inl (cI, 16, .inl rd)), (a 7, .inl (cI, 3, .inl M.2.2.2.2.2.2.1)), (a 8, .inl (cJ, 3, .inr (.inl M.2.2.2.2.2.2.2)))] H) (_ : va_D (lwA s) [(q 0, .inr (5, [.ref (q 1), .ref (q 3), .ref (q 8), .ref (q 14), .ref (q 17)])), (q 1, .inr (2, [.ref (q 2), .int (nI ln)])), (q 2, .inl (cI, 28, .inl bf)), (q 3, .inr (0, [.ref (q 4), .ref (q 5), .ref (q 6), .ref (q 7), .int (nI n)])), (q 4, .inl (cJ, 20, .inr (.inl (gK G)))), (q 5, .inl (cI, 20, .inl (gF G))), (q 6, .inl (cI, 20, .inl (gD G))), (q 7, .inl (cI, 20, .inl (gC G))), (q 8, .inr (1, [.ref (q 9), .ref (q 10), .ref (q 11), .ref (q 12), .ref (q 13), .int (nI R.1.1)])), (q 9, .inl (cI, 190, .inl R.1.2.1)), (q 10, .inl (cJ, 190, .inr (.inl R.1.2.2.1))), (q 11, .inl (cJ, 190, .inr (.inl R.1.2.2.2.1))), (q 12, .inl (cJ, 190, .inr (.inl R.1.2.2.2.2))), (q 13, .inl (cI, 190, .inl R.2)), (q 14, .inr (3, [.ref (q 15), .ref (q 16), .int (nI k)])), (q 15, .inl (cI, 8, .inl lg)), (q 16, .inl (cI, 8, .inl lp)), (q 17, .inr (4, [.ref (q 18), .int (nI np)])), (q 18, .inl (cI, 16, .inl rd)), (a 0, .inr (6, [.int (nI ln), .ref (a 1), .int (nI n), .ref (a 2), .ref (a 3), .int (nI k), .ref (a 4), .ref (a 5), .int (nI np), .ref (a 6), .long M.1, .ref (a 7), .int M.2.1, .int M.2.2.1, .int M.2.2.2.1, .int M.2.2.2.2.1, .ref (a 8), .long M.2.2.2.2.2.1])), (a 1, .inl (cI, 28, .inl bf)), (a 2, .inl (cJ, 20, .inr (.inl (gK G)))), (a 3, .inl (cI, 60, .inl (ilv G))), (a 4, .inl (cI, 8, .inl lg)), (a 5, .inl (cI, 8, .inl lp)), (a 6, .inl (cI, 16, .inl rd)), (a 7, .inl (cI, 3, .inl M.2.2.2.2.2.2.1)), (a 8, .inl (cJ, 3, .inr (.inl M.2.2.2.2.2.2.2)))]) (_ : va_S (lwA s) s.heap H locs) (ls : Array Slot) (_ : lv_has ls 4 [(3, .int (nI i)), (2, .ref (a 0)), (1, .ref (q 0)), (0, .ref b)]), W p l e room_1 s m #[Value.ref b] below meth c H locs 28 1277 (lw_Z below #[Value.ref b] s) (F0 m pc ls [])
section LAWT
variable {p : Program} {l : Launch} {e : Env} {s : State} {m : MethodId} {below : List Frame} {meth : Method} {c : Code} {b L : Nat} {xs : Nat → Int32} {dC : Nat → ClassId} {dI : Nat → Nat → Nat} {cI cJ : ClassId} {q a : Nat → Nat}
set_option maxHeartbeats 4000000 in
set_option maxRecDepth 100000 in
theorem law_1028 (C0 : lw_At p s m meth c b L xs) (hLn : L ≤ 3584) (hK : va_K (dC, dI) vwCl (tyK cI cJ) s) (hN : NW s) {i : Nat} (hi : i + 7 ≤ L) (ih : LC p l e s m below meth c b dC dI cI cJ q a 18 (i + 7)) : LC p l e s m below meth c b dC dI cI cJ q a 1028 i := by
  intro bf ln hln G n hn lg lp k hk rd np hp hG hL hpw hR R M H locs hP hD hS ls hl
  obtain ⟨hx, hb, hr, hml, hown, hts, hX, hbl, hlocks, hgv⟩ := C0
  have hts : ∀ w ∈ wsL_law, w.before #[Value.ref b] s = true := fun w h => hts w (wsL_law_in w h)
  have hown : s.vm.findClass RL = some m.cls := hown
  have hA : ∀ x : Nat, s.heap.size ≤ x → lwA s x := fun _ h => h
  have hbA : ¬ lwA s b := Nat.not_le.mpr hbl
  refine lv_iinc (v := nI (i + 7)) (lv' := [(3, .int (nI (i + 7))), (2, .ref (a 0)), (1, .ref (q 0)), (0, .ref b)]) hx hb dL_law_1028 hl (k := 0) rfl (by first | rfl | exact nI_add _ _) (by decide) rfl (fun ls hl => ?_)
  refine lv_goto (tgt := 18) hx hb dL_law_1031 (by decide) ?_
  exact ih bf ln hln G n hn lg lp k hk rd np hp hG hL hpw hR R M H locs hP hD hS ls (lv_sub hl [0, 1, 2, 3] rfl)
theorem lw_le {i L : Nat} (hi : i < 2 ^ 30) (hL : L < 2 ^ 30) (h : ¬ nI L - 7 < nI i) : i + 7 ≤ L := by
  have h1 : ¬ (nI L - nI 7).toInt < (nI i).toInt := fun z => h (Int32.lt_iff_toInt_lt.mpr z)
  rw [pk_sub_toInt hL (by omega), nI_toInt (by omega)] at h1
  omega
end LAWT
