/-! rows of our own: tops rewritten, places by Nat, branches by Nat and by truth, loops, joins, calls -/
section RWA
variable {p : Program} {l : Launch} {e : Env} {R : Room} {s : State} {m : MethodId} {args : Array Value} {below : List Frame} {meth : Method} {c : Code} {H : Heap} {locs : List Loc} {cells slots : Nat} {Q : State → Prop}
variable {cc : ByteArray} {pc : Nat} {ls : Array Slot} {rest : List Value}
theorem rw_topi {x y : Int32} (h : x = y) (k : W p l e R s m args below meth c H locs cells slots Q (F0 m pc ls (.int y :: rest))) : W p l e R s m args below meth c H locs cells slots Q (F0 m pc ls (.int x :: rest)) := by subst h; exact k
theorem rw_topl {x y : Int64} (h : x = y) (k : W p l e R s m args below meth c H locs cells slots Q (F0 m pc ls (.long y :: rest))) : W p l e R s m args below meth c H locs cells slots Q (F0 m pc ls (.long x :: rest)) := by subst h; exact k
variable {D : va_G} {cl : List vw_C} {A : Nat → Prop} {a : Nat} {tys : List (ClassId × FieldType)} {ws : va_W} {H0 : Heap}
theorem ar_iald (hexec : p.tables.exec = Jvm.exec) (hb : c.code = cc) (hK : va_K D cl tys s) (hP : va_P D cl ws H) (q0 t0 : Nat) {cA : ClassId} {n : Nat} {f : Nat → Int32} (ha : ws[q0]? = some (a, .inl (cA, n, .inl f))) (ht : tys[t0]? = some (cA, .int)) {i : Int32} (g : Nat) (hi : i = nI g) (hg : g < n) (hn : n < 2 ^ 31) (hdg : decode cc pc = .ok (.iaload, 1))
    (kk : W p l e R s m args below meth c H locs cells slots Q (F0 m (pc + 1) ls (.int (f g) :: rest))) : W p l e R s m args below meth c H locs cells slots Q (F0 m pc ls (.int i :: .ref a :: rest)) := by
  subst hi
  refine va_iald hexec hb hK hP q0 t0 ha ht (vp_in_nI hg hn) hdg ?_
  rw [nI_clamp (by omega)]
  exact kk
theorem ar_lald (hexec : p.tables.exec = Jvm.exec) (hb : c.code = cc) (hK : va_K D cl tys s) (hP : va_P D cl ws H) (q0 t0 : Nat) {cA : ClassId} {n : Nat} {f : Nat → Int64} (ha : ws[q0]? = some (a, .inl (cA, n, .inr (.inl f)))) (ht : tys[t0]? = some (cA, .long)) {i : Int32} (g : Nat) (hi : i = nI g) (hg : g < n) (hn : n < 2 ^ 31) (hdg : decode cc pc = .ok (.laload, 1))
    (kk : W p l e R s m args below meth c H locs cells slots Q (F0 m (pc + 1) ls (.long (f g) :: rest))) : W p l e R s m args below meth c H locs cells slots Q (F0 m pc ls (.int i :: .ref a :: rest)) := by
  subst hi
  refine va_lald hexec hb hK hP q0 t0 ha ht (vp_in_nI hg hn) hdg ?_
  rw [nI_clamp (by omega)]
  exact kk
theorem ar_iast (hexec : p.tables.exec = Jvm.exec) (hb : c.code = cc) (hK : va_K D cl tys s) (hP : va_P D cl ws H) (hD : va_D A ws) (hS : va_S A H0 H locs) (q0 t0 : Nat) {cA : ClassId} {n : Nat} {f : Nat → Int32} (ha : ws[q0]? = some (a, .inl (cA, n, .inl f))) (ht : tys[t0]? = some (cA, .int)) {i x : Int32} (g : Nat) (hi : i = nI g) (hg : g < n) (hn : n < 2 ^ 31) (hdg : decode cc pc = .ok (.iastore, 1))
    (kk : ∀ (H1 : Heap) (locs1 : List Loc), va_P D cl (ws.set q0 (a, .inl (cA, n, .inl (upd f g x)))) H1 → va_D A (ws.set q0 (a, .inl (cA, n, .inl (upd f g x)))) → va_S A H0 H1 locs1 → W p l e R s m args below meth c H1 locs1 cells slots Q (F0 m (pc + 1) ls rest)) : W p l e R s m args below meth c H locs cells slots Q (F0 m pc ls (.int x :: .int i :: .ref a :: rest)) := by
  subst hi
  refine va_iast hexec hb hK hP hD hS q0 t0 ha ht (vp_in_nI hg hn) hdg ?_
  rw [nI_clamp (by omega)]
  exact kk
theorem ar_last (hexec : p.tables.exec = Jvm.exec) (hb : c.code = cc) (hK : va_K D cl tys s) (hP : va_P D cl ws H) (hD : va_D A ws) (hS : va_S A H0 H locs) (q0 t0 : Nat) {cA : ClassId} {n : Nat} {f : Nat → Int64} (ha : ws[q0]? = some (a, .inl (cA, n, .inr (.inl f)))) (ht : tys[t0]? = some (cA, .long)) {i : Int32} {x : Int64} (g : Nat) (hi : i = nI g) (hg : g < n) (hn : n < 2 ^ 31) (hdg : decode cc pc = .ok (.lastore, 1))
    (kk : ∀ (H1 : Heap) (locs1 : List Loc), va_P D cl (ws.set q0 (a, .inl (cA, n, .inr (.inl (vp_updL f g x))))) H1 → va_D A (ws.set q0 (a, .inl (cA, n, .inr (.inl (vp_updL f g x))))) → va_S A H0 H1 locs1 → W p l e R s m args below meth c H1 locs1 cells slots Q (F0 m (pc + 1) ls rest)) : W p l e R s m args below meth c H locs cells slots Q (F0 m pc ls (.long x :: .int i :: .ref a :: rest)) := by
  subst hi
  refine va_last hexec hb hK hP hD hS q0 t0 ha ht (vp_in_nI hg hn) hdg ?_
  rw [nI_clamp (by omega)]
  exact kk
/-- an if on a truth value -/
theorem rb_eq (hexec : p.tables.exec = Jvm.exec) (hb : c.code = cc) {P : Prop} {dP : Decidable P} {off : Int} {tgt : Nat} (hdg : decode cc pc = .ok (.ifCond .eq off, 3)) (ht : (pc : Int) + off = (tgt : Int))
    (kt : ¬ P → W p l e R s m args below meth c H locs cells slots Q (F0 m tgt ls rest)) (kf : P → W p l e R s m args below meth c H locs cells slots Q (F0 m (pc + 3) ls rest)) : W p l e R s m args below meth c H locs cells slots Q (F0 m pc ls (.int (if P then 1 else 0) :: rest)) := by
  refine lv_if_eq hexec hb hdg ht (fun h => kt (fun q => ?_)) (fun h => kf ?_)
  · rw [if_pos q] at h; exact absurd h (by decide)
  · exact Decidable.byContradiction (fun q => h (if_neg q))
theorem rb_ne (hexec : p.tables.exec = Jvm.exec) (hb : c.code = cc) {P : Prop} {dP : Decidable P} {off : Int} {tgt : Nat} (hdg : decode cc pc = .ok (.ifCond .ne off, 3)) (ht : (pc : Int) + off = (tgt : Int))
    (kt : P → W p l e R s m args below meth c H locs cells slots Q (F0 m tgt ls rest)) (kf : ¬ P → W p l e R s m args below meth c H locs cells slots Q (F0 m (pc + 3) ls rest)) : W p l e R s m args below meth c H locs cells slots Q (F0 m pc ls (.int (if P then 1 else 0) :: rest)) := by
  refine lv_if_ne hexec hb hdg ht (fun h => kt ?_) (fun h => kf (fun q => ?_))
  · exact Decidable.byContradiction (fun q => h (if_neg q))
  · rw [if_pos q] at h; exact absurd h (by decide)
theorem rl_0 (x y : Int64) : lg_cmp x y = 0 ↔ x = y := by
  unfold lg_cmp
  by_cases h : x > y
  · rw [if_pos h]
    constructor
    · intro q; exact absurd q (by decide)
    · intro q; subst q; exact absurd h (Int64.lt_irrefl)
  · rw [if_neg h]
    by_cases q : x = y
    · rw [if_pos q]; exact ⟨fun _ => q, fun _ => rfl⟩
    · rw [if_neg q]; exact ⟨fun z => absurd z (by decide), fun z => absurd z q⟩
theorem rl_lt (x y : Int64) : lg_cmp x y < 0 ↔ x < y := by
  have h := lg_cmp_ge x y
  rw [← Int32.not_le, h, Int64.not_le]
theorem rl_gt (x y : Int64) : 0 < lg_cmp x y ↔ y < x := by
  unfold lg_cmp
  by_cases h : x > y
  · rw [if_pos h]; exact ⟨fun _ => h, fun _ => by decide⟩
  · rw [if_neg h]
    by_cases q : x = y
    · rw [if_pos q]; exact ⟨fun z => absurd z (by decide), fun z => absurd z h⟩
    · rw [if_neg q]; exact ⟨fun z => absurd z (by decide), fun z => absurd z h⟩
/-- two longs compared and a branch on it -/
theorem rl_ifeq (hexec : p.tables.exec = Jvm.exec) (hb : c.code = cc) {x y : Int64} {off : Int} {tgt : Nat} (hd0 : decode cc pc = .ok (.lcmp, 1)) (hdg : decode cc (pc + 1) = .ok (.ifCond .eq off, 3)) (ht : ((pc + 1 : Nat) : Int) + off = (tgt : Int))
    (kt : x = y → W p l e R s m args below meth c H locs cells slots Q (F0 m tgt ls rest)) (kf : ¬ x = y → W p l e R s m args below meth c H locs cells slots Q (F0 m (pc + 1 + 3) ls rest)) : W p l e R s m args below meth c H locs cells slots Q (F0 m pc ls (.long y :: .long x :: rest)) :=
  W.lcmp hexec hb hd0 (lv_if_eq hexec hb hdg ht (fun h => kt ((rl_0 x y).mp h)) (fun h => kf (fun q => h ((rl_0 x y).mpr q))))
theorem rl_ifne (hexec : p.tables.exec = Jvm.exec) (hb : c.code = cc) {x y : Int64} {off : Int} {tgt : Nat} (hd0 : decode cc pc = .ok (.lcmp, 1)) (hdg : decode cc (pc + 1) = .ok (.ifCond .ne off, 3)) (ht : ((pc + 1 : Nat) : Int) + off = (tgt : Int))
    (kt : ¬ x = y → W p l e R s m args below meth c H locs cells slots Q (F0 m tgt ls rest)) (kf : x = y → W p l e R s m args below meth c H locs cells slots Q (F0 m (pc + 1 + 3) ls rest)) : W p l e R s m args below meth c H locs cells slots Q (F0 m pc ls (.long y :: .long x :: rest)) :=
  W.lcmp hexec hb hd0 (lv_if_ne hexec hb hdg ht (fun h => kt (fun q => h ((rl_0 x y).mpr q))) (fun h => kf ((rl_0 x y).mp h)))
theorem rl_iflt (hexec : p.tables.exec = Jvm.exec) (hb : c.code = cc) {x y : Int64} {off : Int} {tgt : Nat} (hd0 : decode cc pc = .ok (.lcmp, 1)) (hdg : decode cc (pc + 1) = .ok (.ifCond .lt off, 3)) (ht : ((pc + 1 : Nat) : Int) + off = (tgt : Int))
    (kt : x < y → W p l e R s m args below meth c H locs cells slots Q (F0 m tgt ls rest)) (kf : ¬ x < y → W p l e R s m args below meth c H locs cells slots Q (F0 m (pc + 1 + 3) ls rest)) : W p l e R s m args below meth c H locs cells slots Q (F0 m pc ls (.long y :: .long x :: rest)) :=
  W.lcmp hexec hb hd0 (lv_if_lt hexec hb hdg ht (fun h => kt ((rl_lt x y).mp h)) (fun h => kf (fun q => h ((rl_lt x y).mpr q))))
theorem rl_ifge (hexec : p.tables.exec = Jvm.exec) (hb : c.code = cc) {x y : Int64} {off : Int} {tgt : Nat} (hd0 : decode cc pc = .ok (.lcmp, 1)) (hdg : decode cc (pc + 1) = .ok (.ifCond .ge off, 3)) (ht : ((pc + 1 : Nat) : Int) + off = (tgt : Int))
    (kt : ¬ x < y → W p l e R s m args below meth c H locs cells slots Q (F0 m tgt ls rest)) (kf : x < y → W p l e R s m args below meth c H locs cells slots Q (F0 m (pc + 1 + 3) ls rest)) : W p l e R s m args below meth c H locs cells slots Q (F0 m pc ls (.long y :: .long x :: rest)) :=
  W.lcmp hexec hb hd0 (lv_if_ge hexec hb hdg ht (fun h => kt (fun q => (Int64.not_le.mpr q) ((lg_cmp_ge x y).mp h))) (fun h => kf (Int64.not_le.mp (fun q => h ((lg_cmp_ge x y).mpr q)))))
theorem rl_ifgt (hexec : p.tables.exec = Jvm.exec) (hb : c.code = cc) {x y : Int64} {off : Int} {tgt : Nat} (hd0 : decode cc pc = .ok (.lcmp, 1)) (hdg : decode cc (pc + 1) = .ok (.ifCond .gt off, 3)) (ht : ((pc + 1 : Nat) : Int) + off = (tgt : Int))
    (kt : y < x → W p l e R s m args below meth c H locs cells slots Q (F0 m tgt ls rest)) (kf : ¬ y < x → W p l e R s m args below meth c H locs cells slots Q (F0 m (pc + 1 + 3) ls rest)) : W p l e R s m args below meth c H locs cells slots Q (F0 m pc ls (.long y :: .long x :: rest)) :=
  W.lcmp hexec hb hd0 (lv_if_gt hexec hb hdg ht (fun h => kt ((rl_gt x y).mp h)) (fun h => kf (fun q => h ((rl_gt x y).mpr q))))
theorem rl_ifle (hexec : p.tables.exec = Jvm.exec) (hb : c.code = cc) {x y : Int64} {off : Int} {tgt : Nat} (hd0 : decode cc pc = .ok (.lcmp, 1)) (hdg : decode cc (pc + 1) = .ok (.ifCond .le off, 3)) (ht : ((pc + 1 : Nat) : Int) + off = (tgt : Int))
    (kt : ¬ y < x → W p l e R s m args below meth c H locs cells slots Q (F0 m tgt ls rest)) (kf : y < x → W p l e R s m args below meth c H locs cells slots Q (F0 m (pc + 1 + 3) ls rest)) : W p l e R s m args below meth c H locs cells slots Q (F0 m pc ls (.long y :: .long x :: rest)) :=
  W.lcmp hexec hb hd0 (lv_if_le hexec hb hdg ht (fun h => kt (fun q => absurd ((rl_gt x y).mpr q) (Int32.not_lt.mpr h))) (fun h => kf ((rl_gt x y).mp (Int32.not_le.mp h))))
end RWA
section RWB
variable {p : Program} {l : Launch} {e : Env} {R : Room} {s : State} {m : MethodId} {args : Array Value} {below : List Frame} {meth : Method} {c : Code} {H : Heap} {locs : List Loc} {cells slots : Nat} {Q : State → Prop}
variable {cc : ByteArray} {pc : Nat} {ls : Array Slot} {rest : List Value}
/-- two places compared, by their Nats -/
theorem rn_ge (hexec : p.tables.exec = Jvm.exec) (hb : c.code = cc) {x y : Int32} (a b : Nat) (hx : x = nI a) (hy : y = nI b) (ha : a < 2 ^ 31) (hbb : b < 2 ^ 31) {off : Int} {tgt : Nat} (hdg : decode cc pc = .ok (.if_icmp .ge off, 3)) (ht : (pc : Int) + off = (tgt : Int))
    (kt : b ≤ a → W p l e R s m args below meth c H locs cells slots Q (F0 m tgt ls rest)) (kf : a < b → W p l e R s m args below meth c H locs cells slots Q (F0 m (pc + 3) ls rest)) : W p l e R s m args below meth c H locs cells slots Q (F0 m pc ls (.int y :: .int x :: rest)) := by
  subst hx; subst hy
  exact lv_icmp_ge hexec hb hdg ht (fun h => kt ((nI_leI hbb ha).mp h)) (fun h => kf (Nat.lt_of_not_le (fun q => h ((nI_leI hbb ha).mpr q))))
theorem rn_lt (hexec : p.tables.exec = Jvm.exec) (hb : c.code = cc) {x y : Int32} (a b : Nat) (hx : x = nI a) (hy : y = nI b) (ha : a < 2 ^ 31) (hbb : b < 2 ^ 31) {off : Int} {tgt : Nat} (hdg : decode cc pc = .ok (.if_icmp .lt off, 3)) (ht : (pc : Int) + off = (tgt : Int))
    (kt : a < b → W p l e R s m args below meth c H locs cells slots Q (F0 m tgt ls rest)) (kf : b ≤ a → W p l e R s m args below meth c H locs cells slots Q (F0 m (pc + 3) ls rest)) : W p l e R s m args below meth c H locs cells slots Q (F0 m pc ls (.int y :: .int x :: rest)) := by
  subst hx; subst hy
  exact lv_icmp_lt hexec hb hdg ht (fun h => kt ((nI_ltI ha hbb).mp h)) (fun h => kf (Nat.le_of_not_lt (fun q => h ((nI_ltI ha hbb).mpr q))))
theorem rn_gt (hexec : p.tables.exec = Jvm.exec) (hb : c.code = cc) {x y : Int32} (a b : Nat) (hx : x = nI a) (hy : y = nI b) (ha : a < 2 ^ 31) (hbb : b < 2 ^ 31) {off : Int} {tgt : Nat} (hdg : decode cc pc = .ok (.if_icmp .gt off, 3)) (ht : (pc : Int) + off = (tgt : Int))
    (kt : b < a → W p l e R s m args below meth c H locs cells slots Q (F0 m tgt ls rest)) (kf : a ≤ b → W p l e R s m args below meth c H locs cells slots Q (F0 m (pc + 3) ls rest)) : W p l e R s m args below meth c H locs cells slots Q (F0 m pc ls (.int y :: .int x :: rest)) := by
  subst hx; subst hy
  exact lv_icmp_gt hexec hb hdg ht (fun h => kt ((nI_ltI hbb ha).mp h)) (fun h => kf (Nat.le_of_not_lt (fun q => h ((nI_ltI hbb ha).mpr q))))
theorem rn_le (hexec : p.tables.exec = Jvm.exec) (hb : c.code = cc) {x y : Int32} (a b : Nat) (hx : x = nI a) (hy : y = nI b) (ha : a < 2 ^ 31) (hbb : b < 2 ^ 31) {off : Int} {tgt : Nat} (hdg : decode cc pc = .ok (.if_icmp .le off, 3)) (ht : (pc : Int) + off = (tgt : Int))
    (kt : a ≤ b → W p l e R s m args below meth c H locs cells slots Q (F0 m tgt ls rest)) (kf : b < a → W p l e R s m args below meth c H locs cells slots Q (F0 m (pc + 3) ls rest)) : W p l e R s m args below meth c H locs cells slots Q (F0 m pc ls (.int y :: .int x :: rest)) := by
  subst hx; subst hy
  exact lv_icmp_le hexec hb hdg ht (fun h => kt ((nI_leI ha hbb).mp h)) (fun h => kf (Nat.lt_of_not_le (fun q => h ((nI_leI ha hbb).mpr q))))
theorem rn_eq (hexec : p.tables.exec = Jvm.exec) (hb : c.code = cc) {x y : Int32} (a b : Nat) (hx : x = nI a) (hy : y = nI b) (ha : a < 2 ^ 31) (hbb : b < 2 ^ 31) {off : Int} {tgt : Nat} (hdg : decode cc pc = .ok (.if_icmp .eq off, 3)) (ht : (pc : Int) + off = (tgt : Int))
    (kt : a = b → W p l e R s m args below meth c H locs cells slots Q (F0 m tgt ls rest)) (kf : a ≠ b → W p l e R s m args below meth c H locs cells slots Q (F0 m (pc + 3) ls rest)) : W p l e R s m args below meth c H locs cells slots Q (F0 m pc ls (.int y :: .int x :: rest)) := by
  subst hx; subst hy
  exact lv_icmp_eq hexec hb hdg ht (fun h => kt ((nI_eq ha hbb).mp h)) (fun h => kf (fun q => h ((nI_eq ha hbb).mpr q)))
theorem rn_ne (hexec : p.tables.exec = Jvm.exec) (hb : c.code = cc) {x y : Int32} (a b : Nat) (hx : x = nI a) (hy : y = nI b) (ha : a < 2 ^ 31) (hbb : b < 2 ^ 31) {off : Int} {tgt : Nat} (hdg : decode cc pc = .ok (.if_icmp .ne off, 3)) (ht : (pc : Int) + off = (tgt : Int))
    (kt : a ≠ b → W p l e R s m args below meth c H locs cells slots Q (F0 m tgt ls rest)) (kf : a = b → W p l e R s m args below meth c H locs cells slots Q (F0 m (pc + 3) ls rest)) : W p l e R s m args below meth c H locs cells slots Q (F0 m pc ls (.int y :: .int x :: rest)) := by
  subst hx; subst hy
  exact lv_icmp_ne hexec hb hdg ht (fun h => kt (fun q => h ((nI_eq ha hbb).mpr q))) (fun h => kf ((nI_eq ha hbb).mp h))
/-- two roads meet at pcJ: what holds there goes first -/
theorem rjoin {nL : Nat} (pcJ : Nat) (L : List (Nat × Value)) (st : List Value) (hJ : ∀ ls, lv_has ls nL L → W p l e R s m args below meth c H locs cells slots Q (F0 m pcJ ls st)) {g : JFrame}
    (hB : (∀ ls, lv_has ls nL L → W p l e R s m args below meth c H locs cells slots Q (F0 m pcJ ls st)) → W p l e R s m args below meth c H locs cells slots Q g) : W p l e R s m args below meth c H locs cells slots Q g := hB hJ
/-- the same, where heap and locals may be any that the joint words allow -/
theorem rjoinH {σ : Type} (pcJ : Nat) {nL : Nat} {D : va_G} {cl : List vw_C} {A : Nat → Prop} {H0 : Heap} (Wd : σ → va_W) (L : σ → List (Nat × Value)) (st : σ → List Value) (I : σ → Prop)
    (hJ : ∀ (z : σ) (H : Heap) (locs : List Loc) (ls : Array Slot), I z → va_P D cl (Wd z) H → va_D A (Wd z) → va_S A H0 H locs → lv_has ls nL (L z) → W p l e R s m args below meth c H locs cells slots Q (F0 m pcJ ls (st z))) {g : JFrame}
    (hB : (∀ (z : σ) (H : Heap) (locs : List Loc) (ls : Array Slot), I z → va_P D cl (Wd z) H → va_D A (Wd z) → va_S A H0 H locs → lv_has ls nL (L z) → W p l e R s m args below meth c H locs cells slots Q (F0 m pcJ ls (st z))) → W p l e R s m args below meth c H locs cells slots Q g) : W p l e R s m args below meth c H locs cells slots Q g := hB hJ
/-- a counted loop that writes nothing: the locals are L k at its head, I k holds there -/
theorem rloop {nL hd : Nat} (lo n : Nat) (L : Nat → List (Nat × Value)) (I : Nat → Prop) (hlo : lo ≤ n) (hI : I lo) (h0 : lv_has ls nL (L lo))
    (step : ∀ k, lo ≤ k → k < n → I k → ∀ ls, lv_has ls nL (L k) → (I (k + 1) → ∀ ls, lv_has ls nL (L (k + 1)) → W p l e R s m args below meth c H locs cells slots Q (F0 m hd ls [])) → W p l e R s m args below meth c H locs cells slots Q (F0 m hd ls []))
    (last : I n → ∀ ls, lv_has ls nL (L n) → W p l e R s m args below meth c H locs cells slots Q (F0 m hd ls [])) : W p l e R s m args below meth c H locs cells slots Q (F0 m hd ls []) := by
  have go : ∀ (j k : Nat), lo ≤ k → k + j = n → I k → ∀ ls, lv_has ls nL (L k) → W p l e R s m args below meth c H locs cells slots Q (F0 m hd ls []) := by
    intro j
    induction j with
    | zero =>
      intro k h1 h2 h3 ls h4
      have : k = n := by omega
      subst this
      exact last h3 ls h4
    | succ j ih =>
      intro k h1 h2 h3 ls h4
      exact step k h1 (by omega) h3 ls h4 (fun h5 ls h6 => ih (k + 1) (by omega) (by omega) h5 ls h6)
  exact go (n - lo) lo (Nat.le_refl _) (by omega) hI ls h0
/-- a loop that writes nothing, by a measure that falls -/
theorem rloopM {σ : Type} {nL hd : Nat} (μ : σ → Nat) (L : σ → List (Nat × Value)) (I : σ → Prop) (z0 : σ) (hI : I z0) (h0 : lv_has ls nL (L z0))
    (step : ∀ z, I z → ∀ ls, lv_has ls nL (L z) → (∀ z', I z' → μ z' < μ z → ∀ ls, lv_has ls nL (L z') → W p l e R s m args below meth c H locs cells slots Q (F0 m hd ls [])) → W p l e R s m args below meth c H locs cells slots Q (F0 m hd ls [])) : W p l e R s m args below meth c H locs cells slots Q (F0 m hd ls []) := by
  have go : ∀ (k : Nat) (z : σ), μ z < k → I z → ∀ ls, lv_has ls nL (L z) → W p l e R s m args below meth c H locs cells slots Q (F0 m hd ls []) := by
    intro k
    induction k with
    | zero => intro z h; exact absurd h (Nat.not_lt_zero _)
    | succ k ih =>
      intro z h h1 ls h2
      exact step z h1 ls h2 (fun z' h3 h4 ls h5 => ih z' (by omega) h3 ls h5)
  exact go (μ z0 + 1) z0 (Nat.lt_succ_self _) hI ls h0
/-- a loop that writes, by a measure that falls -/
theorem rloopH {σ : Type} {nL hd : Nat} {D : va_G} {cl : List vw_C} {A : Nat → Prop} {H0 : Heap} (μ : σ → Nat) (Wd : σ → va_W) (L : σ → List (Nat × Value)) (I : σ → Prop) (z0 : σ) (hI : I z0) (hP : va_P D cl (Wd z0) H) (hD : va_D A (Wd z0)) (hS : va_S A H0 H locs) (h0 : lv_has ls nL (L z0))
    (step : ∀ z, I z → ∀ (H : Heap) (locs : List Loc) (ls : Array Slot), va_P D cl (Wd z) H → va_D A (Wd z) → va_S A H0 H locs → lv_has ls nL (L z) → (∀ z', I z' → μ z' < μ z → ∀ (H : Heap) (locs : List Loc) (ls : Array Slot), va_P D cl (Wd z') H → va_D A (Wd z') → va_S A H0 H locs → lv_has ls nL (L z') → W p l e R s m args below meth c H locs cells slots Q (F0 m hd ls [])) → W p l e R s m args below meth c H locs cells slots Q (F0 m hd ls [])) : W p l e R s m args below meth c H locs cells slots Q (F0 m hd ls []) := by
  have go : ∀ (k : Nat) (z : σ), μ z < k → I z → ∀ (H : Heap) (locs : List Loc) (ls : Array Slot), va_P D cl (Wd z) H → va_D A (Wd z) → va_S A H0 H locs → lv_has ls nL (L z) → W p l e R s m args below meth c H locs cells slots Q (F0 m hd ls []) := by
    intro k
    induction k with
    | zero => intro z h; exact absurd h (Nat.not_lt_zero _)
    | succ k ih =>
      intro z h h1 H locs ls h2 h3 h4 h5
      exact step z h1 H locs ls h2 h3 h4 h5 (fun z' g1 g2 H locs ls g3 g4 g5 g6 => ih z' (by omega) g1 H locs ls g3 g4 g5 g6)
  exact go (μ z0 + 1) z0 (Nat.lt_succ_self _) hI H locs ls hP hD hS h0
/-- a counted loop that writes -/
theorem rloopC {nL hd : Nat} {D : va_G} {cl : List vw_C} {A : Nat → Prop} {H0 : Heap} (lo n : Nat) (Wd : Nat → va_W) (L : Nat → List (Nat × Value)) (I : Nat → Prop) (hlo : lo ≤ n) (hI : I lo) (hP : va_P D cl (Wd lo) H) (hD : va_D A (Wd lo)) (hS : va_S A H0 H locs) (h0 : lv_has ls nL (L lo))
    (step : ∀ k, lo ≤ k → k < n → I k → ∀ (H : Heap) (locs : List Loc) (ls : Array Slot), va_P D cl (Wd k) H → va_D A (Wd k) → va_S A H0 H locs → lv_has ls nL (L k) → (I (k + 1) → ∀ (H : Heap) (locs : List Loc) (ls : Array Slot), va_P D cl (Wd (k + 1)) H → va_D A (Wd (k + 1)) → va_S A H0 H locs → lv_has ls nL (L (k + 1)) → W p l e R s m args below meth c H locs cells slots Q (F0 m hd ls [])) → W p l e R s m args below meth c H locs cells slots Q (F0 m hd ls []))
    (last : I n → ∀ (H : Heap) (locs : List Loc) (ls : Array Slot), va_P D cl (Wd n) H → va_D A (Wd n) → va_S A H0 H locs → lv_has ls nL (L n) → W p l e R s m args below meth c H locs cells slots Q (F0 m hd ls [])) : W p l e R s m args below meth c H locs cells slots Q (F0 m hd ls []) := by
  have go : ∀ (j k : Nat), lo ≤ k → k + j = n → I k → ∀ (H : Heap) (locs : List Loc) (ls : Array Slot), va_P D cl (Wd k) H → va_D A (Wd k) → va_S A H0 H locs → lv_has ls nL (L k) → W p l e R s m args below meth c H locs cells slots Q (F0 m hd ls []) := by
    intro j
    induction j with
    | zero =>
      intro k h1 h2 h3 H locs ls g1 g2 g3 g4
      have : k = n := by omega
      subst this
      exact last h3 H locs ls g1 g2 g3 g4
    | succ j ih =>
      intro k h1 h2 h3 H locs ls g1 g2 g3 g4
      exact step k h1 (by omega) h3 H locs ls g1 g2 g3 g4 (fun h5 H locs ls q1 q2 q3 q4 => ih (k + 1) (by omega) (by omega) h5 H locs ls q1 q2 q3 q4)
  exact go (n - lo) lo (Nat.le_refl _) (by omega) hI H locs ls hP hD hS h0
end RWB
