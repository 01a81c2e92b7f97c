/-! the pure words that both sides are tied to -/
theorem nb_1 (P : Prop) {dP : Decidable P} : narrow .boolean (.int (if P then 1 else 0)) = .int (if P then 1 else 0) := by
  by_cases h : P
  · rw [if_pos h]; rfl
  · rw [if_neg h]; rfl
theorem nb_2 (P : Prop) {dP : Decidable P} : fits .boolean (.int (if P then 1 else 0)) = true := by
  by_cases h : P
  · rw [if_pos h]; rfl
  · rw [if_neg h]; rfl
section RZ
variable {p : Program} {l : Launch} {e : Env} {R : Room} {s : State} {m : MethodId} {args : Array Value} {below : List Frame} {meth : Method} {c : Code} {H : Heap} {locs : List Loc} {cells slots : Nat} {Q : State → Prop}
variable {cc : ByteArray} {pc : Nat} {ls : Array Slot} {rest : List Value}
theorem rz_eq (hexec : p.tables.exec = Jvm.exec) (hb : c.code = cc) {x : Int32} (a : Nat) (hx : x = nI a) (ha : a < 2 ^ 31) {off : Int} {tgt : Nat} (hdg : decode cc pc = .ok (.ifCond .eq off, 3)) (ht : (pc : Int) + off = (tgt : Int))
    (kt : a = 0 → W p l e R s m args below meth c H locs cells slots Q (F0 m tgt ls rest)) (kf : a ≠ 0 → W p l e R s m args below meth c H locs cells slots Q (F0 m (pc + 3) ls rest)) : W p l e R s m args below meth c H locs cells slots Q (F0 m pc ls (.int x :: rest)) := by
  subst hx
  have z : (nI a = 0) ↔ a = 0 := by rw [← nI_0]; exact nI_eq ha (by omega)
  exact lv_if_eq hexec hb hdg ht (fun h => kt (z.mp h)) (fun h => kf (fun q => h (z.mpr q)))
theorem rz_ne (hexec : p.tables.exec = Jvm.exec) (hb : c.code = cc) {x : Int32} (a : Nat) (hx : x = nI a) (ha : a < 2 ^ 31) {off : Int} {tgt : Nat} (hdg : decode cc pc = .ok (.ifCond .ne off, 3)) (ht : (pc : Int) + off = (tgt : Int))
    (kt : a ≠ 0 → W p l e R s m args below meth c H locs cells slots Q (F0 m tgt ls rest)) (kf : a = 0 → W p l e R s m args below meth c H locs cells slots Q (F0 m (pc + 3) ls rest)) : W p l e R s m args below meth c H locs cells slots Q (F0 m pc ls (.int x :: rest)) := by
  subst hx
  have z : (nI a = 0) ↔ a = 0 := by rw [← nI_0]; exact nI_eq ha (by omega)
  exact lv_if_ne hexec hb hdg ht (fun h => kt (fun q => h (z.mpr q))) (fun h => kf (z.mp h))
theorem rz_le (hexec : p.tables.exec = Jvm.exec) (hb : c.code = cc) {x : Int32} (a : Nat) (hx : x = nI a) (ha : a < 2 ^ 31) {off : Int} {tgt : Nat} (hdg : decode cc pc = .ok (.ifCond .le off, 3)) (ht : (pc : Int) + off = (tgt : Int))
    (kt : a = 0 → W p l e R s m args below meth c H locs cells slots Q (F0 m tgt ls rest)) (kf : 0 < a → W p l e R s m args below meth c H locs cells slots Q (F0 m (pc + 3) ls rest)) : W p l e R s m args below meth c H locs cells slots Q (F0 m pc ls (.int x :: rest)) := by
  subst hx
  have z : (nI a ≤ 0) ↔ a ≤ 0 := by rw [← nI_0]; exact nI_leI ha (by omega)
  exact lv_if_le hexec hb hdg ht (fun h => kt (Nat.le_zero.mp (z.mp h))) (fun h => kf (Nat.lt_of_not_le (fun q => h (z.mpr q))))
theorem rz_gt (hexec : p.tables.exec = Jvm.exec) (hb : c.code = cc) {x : Int32} (a : Nat) (hx : x = nI a) (ha : a < 2 ^ 31) {off : Int} {tgt : Nat} (hdg : decode cc pc = .ok (.ifCond .gt off, 3)) (ht : (pc : Int) + off = (tgt : Int))
    (kt : 0 < a → W p l e R s m args below meth c H locs cells slots Q (F0 m tgt ls rest)) (kf : a = 0 → W p l e R s m args below meth c H locs cells slots Q (F0 m (pc + 3) ls rest)) : W p l e R s m args below meth c H locs cells slots Q (F0 m pc ls (.int x :: rest)) := by
  subst hx
  have z : (0 < nI a) ↔ 0 < a := by rw [← nI_0]; exact nI_ltI (by omega) ha
  exact lv_if_gt hexec hb hdg ht (fun h => kt (z.mp h)) (fun h => kf (Nat.eq_zero_of_not_pos (fun q => h (z.mpr q))))
end RZ
abbrev ix (x : Int32) : Nat := x.toNatClampNeg
theorem ix_nI {g : Nat} (h : g < 2 ^ 31) : ix (nI g) = g := nI_clamp h
/-- f goes over lo, lo + 1 .. up to j - 1 -/
def fr {σ : Type} (lo : Nat) (f : Nat → σ → σ) (z : σ) : Nat → σ
  | 0 => z
  | j + 1 => if j < lo then z else f j (fr lo f z j)
theorem fr_0 {σ : Type} (lo : Nat) (f : Nat → σ → σ) (z : σ) : fr lo f z lo = z := by
  cases lo with
  | zero => rfl
  | succ k => rw [fr, if_pos (Nat.lt_succ_self k)]
theorem fr_s {σ : Type} {lo j : Nat} (f : Nat → σ → σ) (z : σ) (h : lo ≤ j) : fr lo f z (j + 1) = f j (fr lo f z j) := by
  rw [fr, if_neg (Nat.not_lt.mpr h)]
theorem fr_cong {σ : Type} {lo : Nat} {f g : Nat → σ → σ} {z : σ} : ∀ {n : Nat}, (∀ k w, lo ≤ k → k < n → f k w = g k w) → fr lo f z n = fr lo g z n
  | 0, _ => rfl
  | n + 1, h => by
    by_cases q : n < lo
    · rw [fr, fr, if_pos q, if_pos q]
    · rw [fr, fr, if_neg q, if_neg q, fr_cong (n := n) (fun k w h1 h2 => h k w h1 (by omega)), h n _ (by omega) (by omega)]
section RLZ
variable {p : Program} {l : Launch} {e : Env} {R : Room} {s : State} {m : MethodId} {args : Array Value} {below : List Frame} {meth : Method} {c : Code} {H : Heap} {locs : List Loc} {cells slots : Nat} {Q : State → Prop} {ls : Array Slot}
/-- a counted loop that writes nothing and carries z -/
theorem rloopZ {σ : Type} {nL hd : Nat} (lo n : Nat) (f : Nat → σ → σ) (z0 : σ) (L : Nat → σ → List (Nat × Value)) (I : Nat → σ → Prop) (hlo : lo ≤ n) (hI : I lo z0) (h0 : lv_has ls nL (L lo z0))
    (step : ∀ k z, lo ≤ k → k < n → z = fr lo f z0 k → I k z → ∀ ls, lv_has ls nL (L k z) → (∀ z', z' = f k z → I (k + 1) z' → ∀ ls, lv_has ls nL (L (k + 1) z') → W p l e R s m args below meth c H locs cells slots Q (F0 m hd ls [])) → W p l e R s m args below meth c H locs cells slots Q (F0 m hd ls []))
    (last : ∀ z, z = fr lo f z0 n → I n z → ∀ ls, lv_has ls nL (L n z) → W p l e R s m args below meth c H locs cells slots Q (F0 m hd ls [])) : W p l e R s m args below meth c H locs cells slots Q (F0 m hd ls []) := by
  have go : ∀ (j k : Nat) (z : σ), lo ≤ k → k + j = n → z = fr lo f z0 k → I k z → ∀ ls, lv_has ls nL (L k z) → W p l e R s m args below meth c H locs cells slots Q (F0 m hd ls []) := by
    intro j
    induction j with
    | zero =>
      intro k z h1 h2 h3 h4 ls h5
      have : k = n := by omega
      subst this
      exact last z h3 h4 ls h5
    | succ j ih =>
      intro k z h1 h2 h3 h4 ls h5
      exact step k z h1 (by omega) h3 h4 ls h5 (fun z' g1 g2 ls g3 => ih (k + 1) z' (by omega) (by omega) (by rw [g1, h3, fr_s f z0 h1]) g2 ls g3)
  exact go (n - lo) lo z0 (Nat.le_refl _) (by omega) (fr_0 lo f z0).symm hI ls h0
/-- a counted loop that writes and carries z: cells Wd k z, locals L k z -/
theorem rloopW {σ : Type} {nL hd : Nat} {D : va_G} {cl : List vw_C} {A : Nat → Prop} {H0 : Heap} (lo n : Nat) (f : Nat → σ → σ) (z0 : σ) (Wd : Nat → σ → va_W) (L : Nat → σ → List (Nat × Value)) (I : Nat → σ → Prop) (hlo : lo ≤ n) (hI : I lo z0) (hP : va_P D cl (Wd lo z0) H) (hD : va_D A (Wd lo z0)) (hS : va_S A H0 H locs) (h0 : lv_has ls nL (L lo z0))
    (step : ∀ k z, lo ≤ k → k < n → z = fr lo f z0 k → I k z → ∀ (H : Heap) (locs : List Loc) (ls : Array Slot), va_P D cl (Wd k z) H → va_D A (Wd k z) → va_S A H0 H locs → lv_has ls nL (L k z) → (∀ z', z' = f k z → I (k + 1) z' → ∀ (H : Heap) (locs : List Loc) (ls : Array Slot), va_P D cl (Wd (k + 1) z') H → va_D A (Wd (k + 1) z') → va_S A H0 H locs → lv_has ls nL (L (k + 1) z') → W p l e R s m args below meth c H locs cells slots Q (F0 m hd ls [])) → W p l e R s m args below meth c H locs cells slots Q (F0 m hd ls []))
    (last : ∀ z, z = fr lo f z0 n → I n z → ∀ (H : Heap) (locs : List Loc) (ls : Array Slot), va_P D cl (Wd n z) H → va_D A (Wd n z) → va_S A H0 H locs → lv_has ls nL (L n z) → W p l e R s m args below meth c H locs cells slots Q (F0 m hd ls [])) : W p l e R s m args below meth c H locs cells slots Q (F0 m hd ls []) := by
  have go : ∀ (j k : Nat) (z : σ), lo ≤ k → k + j = n → z = fr lo f z0 k → I k z → ∀ (H : Heap) (locs : List Loc) (ls : Array Slot), va_P D cl (Wd k z) H → va_D A (Wd k z) → va_S A H0 H locs → lv_has ls nL (L k z) → W p l e R s m args below meth c H locs cells slots Q (F0 m hd ls []) := by
    intro j
    induction j with
    | zero =>
      intro k z h1 h2 h3 h4 H locs ls q1 q2 q3 q4
      have : k = n := by omega
      subst this
      exact last z h3 h4 H locs ls q1 q2 q3 q4
    | succ j ih =>
      intro k z h1 h2 h3 h4 H locs ls q1 q2 q3 q4
      exact step k z h1 (by omega) h3 h4 H locs ls q1 q2 q3 q4 (fun z' g1 g2 H locs ls g3 g4 g5 g6 => ih (k + 1) z' (by omega) (by omega) (by rw [g1, h3, fr_s f z0 h1]) g2 H locs ls g3 g4 g5 g6)
  exact go (n - lo) lo z0 (Nat.le_refl _) (by omega) (fr_0 lo f z0).symm hI H locs ls hP hD hS h0
end RLZ
abbrev cOOR : Int64 := -9000000000000000001
abbrev cNSG : Int64 := -9000000000000000002
abbrev cNSL : Int64 := -9000000000000000003
abbrev cFULL : Int64 := -9000000000000000004
abbrev cINV : Int64 := -9000000000000000005
abbrev cDUP : Int64 := -9000000000000000006
abbrev cUSE : Int64 := -9000000000000000007
abbrev cNO : Int64 := -9000000000000000008
/-- a place among the first n -/
abbrev hasP (x : Int32) (n : Nat) : Prop := 0 ≤ x ∧ x < nI n
theorem hasP_ex {x : Int32} {n : Nat} (hn : n < 2 ^ 31) (h : hasP x n) : ∃ g : Nat, g < n ∧ x = nI g := by
  rcases pk_ix x hn with h1 | h1 | h1
  · exact absurd h.1 (Int32.not_le.mpr h1)
  · exact absurd h.2 (Int32.not_lt.mpr h1)
  · exact h1
theorem hasP_nI {g n : Nat} (hn : n < 2 ^ 31) (h : g < n) : hasP (nI g) n := ⟨nI_pos' (by omega), nI_lt h hn⟩
/-- the catalogue: keys, and the indices for F, d and C -/
abbrev GL : Type := (Nat → Int64) × (Nat → Int32) × (Nat → Int32) × (Nat → Int32)
abbrev gK (G : GL) : Nat → Int64 := G.1
abbrev gF (G : GL) : Nat → Int32 := G.2.1
abbrev gD (G : GL) : Nat → Int32 := G.2.2.1
abbrev gC (G : GL) : Nat → Int32 := G.2.2.2
def gOK (G : GL) (n : Nat) : Prop := ∀ g, g < n → 130000 ≤ (gC G g).toInt ∧ (gC G g).toInt < (gD G g).toInt ∧ (gD G g).toInt < (gF G g).toInt ∧ (gF G g).toInt ≤ 230000 ∧ (gF G g).toInt - (gC G g).toInt ≤ 9999
def vA (G : GL) (g : Nat) : Int64 := (gD G g - 100000).toInt64
def vB (G : GL) (g : Nat) : Int64 := (gF G g - gC G g).toInt64
def vD (G : GL) (g : Nat) : Int64 := (gF G g - gD G g).toInt64
def vE (G : GL) (i j : Nat) : Int64 := vA G i * vB G j - vA G j * vB G i
def vX (G : GL) (i j : Nat) : Int64 := vB G i * vD G j - vB G j * vD G i
def vT (G : GL) (i j k : Nat) : Int64 := vA G i * vX G j k
def fdiv (a b : Int64) : Int64 := if (a ^^^ b) < 0 ∧ ¬ a / b * b = a then a / b - 1 else a / b
def fq (a b : Int64) : Int64 := if b = 0 then 0 else fdiv a b
def labs (x : Int64) : Int64 := if 0 < x then x else -x
def lmax (x y : Int64) : Int64 := if y < x then x else y
def vAbb (G : GL) (g : Nat) : Int64 := fq (1000 * vA G g) (vB G g)
def vPar (G : GL) (g : Nat) : Int64 := fq (100000 * vD G g) (vB G g)
/-- the index of a glass for a colour -/
def vN (G : GL) (g : Nat) (cl : Int32) : Int32 := if cl = 0 then gF G g else if cl = 1 then gD G g else gC G g
/-- a search for the least: the code and the value that are held, the code and the value that come -/
def pick (b : Int64 × Int64) (cd now : Int64) : Int64 × Int64 := if 0 ≤ now ∧ (b.1 = cNO ∨ now < b.2) then (cd, now) else b
/-- places whose keys come before -/
def nBef (K : Nat → Int64) (g : Nat) (n : Nat) : Nat := fr 0 (fun k z => if K k < K g then z + 1 else z) 0 n
/-- the glass with the least abbe that is at least b (-1: none yet), and its abbe -/
def lAbb (G : GL) (b : Int64) (n : Nat) : Int32 × Int64 := fr 0 (fun k z => if b ≤ vAbb G k ∧ (z.1 < 0 ∨ vAbb G k < z.2) then (nI k, vAbb G k) else z) (-1, 0) n
/-- Long.compare -/
def lcm (a b : Int64) : Int32 := if a < b then -1 else if a = b then 0 else 1
abbrev isCol (x : Int32) : Prop := 0 ≤ x ∧ x ≤ 2
abbrev isPow (x : Int32) : Prop := -10000 ≤ x ∧ x ≤ 10000
abbrev isMea (x : Int64) : Prop := -1000000000000 ≤ x ∧ x ≤ 1000000000000
abbrev isGl (f d k : Int32) : Prop := 130000 ≤ k ∧ k < d ∧ d < f ∧ f ≤ 230000 ∧ f - k ≤ 9999
abbrev isLet (x : Int32) : Prop := 65 ≤ x ∧ x ≤ 90
abbrev isDig (x : Int32) : Prop := 48 ≤ x ∧ x ≤ 57
abbrev wthn (v a b : Int64) : Prop := a ≤ v ∧ v ≤ b
def mixL (h v : Int64) : Int64 := 31 * h + v
theorem labs_neg {v : Int64} (h : v < 0) : -v = labs v := (if_neg (fun q => absurd h (Int64.not_lt.mpr (Int64.le_of_lt q)))).symm
theorem labs_pos {v : Int64} (h : ¬ v < 0) : v = labs v := by
  unfold labs
  by_cases q : 0 < v
  · rw [if_pos q]
  · have e : v = 0 := Int64.le_antisymm (Int64.not_lt.mp q) (Int64.not_lt.mp h)
    subst e; decide
/-- the lenses' glasses are there -/
def lOK (lg : Nat → Int32) (k n : Nat) : Prop := ∀ j, j < k → lg j = nI (ix (lg j)) ∧ ix (lg j) < n
/-- the power of lens j for a colour, as if it were made of g -/
def vL (G : GL) (lg lp : Nat → Int32) (j g : Nat) (cl : Int32) : Int64 := fq ((lp j).toInt64 * 1000 * ((vN G g cl).toInt64 - 100000)) (vA G (ix (lg j)))
/-- the power of the system -/
def vP (G : GL) (lg lp : Nat → Int32) (cl : Int32) (k : Nat) : Int64 := fr 0 (fun j z => z + vL G lg lp j (ix (lg j)) cl) 0 k
def vCh (G : GL) (lg lp : Nat → Int32) (j g : Nat) (cl : Int32) : Int64 := vL G lg lp j g cl - vL G lg lp j (ix (lg j)) cl
/-- the nearest plate (-1: none yet) and its distance -/
def nearZ (rd : Nat → Int32) (r : Int32) : Nat → Int32 × Int64 → Int32 × Int64 := fun k z => if z.1 < 0 ∨ labs ((rd k).toInt64 - r.toInt64) < z.2 ∨ (labs ((rd k).toInt64 - r.toInt64) = z.2 ∧ rd k < rd (ix z.1)) then (nI k, labs ((rd k).toInt64 - r.toInt64)) else z
def near (rd : Nat → Int32) (r : Int32) (n : Nat) : Int32 × Int64 := fr 0 (nearZ rd r) (-1, 0) n
/-- the radius of surface f: 2 * plate, and 1 for minus -/
def sR (rd : Nat → Int32) (f : Nat) : Int64 := if f % 2 = 0 then (rd (f / 2)).toInt64 else (-(rd (f / 2))).toInt64
/-- the first place below n where p holds, or n -/
def first (p : Nat → Prop) (dp : DecidablePred p) : Nat → Nat
  | 0 => 0
  | n + 1 => if first p dp n < n then first p dp n else if p n then n else n + 1
theorem first_eq {p : Nat → Prop} {dp : DecidablePred p} : ∀ {n k : Nat}, k ≤ n → (∀ j, j < k → ¬ p j) → (k < n → p k) → first p dp n = k
  | 0, k, h, _, _ => by rw [first]; omega
  | n + 1, k, h, h1, h2 => by
    rw [first]
    rcases Nat.lt_or_ge k n with q | q
    · rw [first_eq (n := n) (k := k) (by omega) h1 (fun _ => h2 (by omega)), if_pos q]
    · have e : first p dp n = n := first_eq (Nat.le_refl n) (fun j hj => h1 j (by omega)) (fun z => absurd z (Nat.lt_irrefl n))
      rw [e, if_neg (Nat.lt_irrefl n)]
      rcases Nat.lt_or_ge k (n + 1) with w | w
      · have : k = n := by omega
        subst this
        rw [if_pos (h2 w)]
      · have : k = n + 1 := by omega
        subst this
        rw [if_neg (h1 n (Nat.lt_succ_self n))]
theorem first_le {p : Nat → Prop} {dp : DecidablePred p} : ∀ (n : Nat), first p dp n ≤ n
  | 0 => Nat.le_refl 0
  | n + 1 => by
    rw [first]
    split
    · omega
    · split <;> omega
theorem first_no {p : Nat → Prop} {dp : DecidablePred p} : ∀ {n j : Nat}, j < first p dp n → ¬ p j
  | 0, j, h => absurd h (Nat.not_lt_zero j)
  | n + 1, j, h => by
    rw [first] at h
    split at h
    · exact first_no h
    · rename_i q
      have e : first p dp n = n := by have := first_le (p := p) (dp := dp) n; omega
      split at h
      · exact first_no (dp := dp) (n := n) (by omega)
      · rename_i w
        rcases Nat.lt_or_ge j n with z | z
        · exact first_no (dp := dp) (n := n) (by omega)
        · have : j = n := by omega
          subst this; exact w
theorem first_yes {p : Nat → Prop} {dp : DecidablePred p} : ∀ {n : Nat}, first p dp n < n → p (first p dp n)
  | 0, h => absurd h (Nat.not_lt_zero _)
  | n + 1, h => by
    rw [first] at h ⊢
    split
    · rename_i q; exact first_yes q
    · rename_i q
      rw [if_neg q] at h
      split
      · rename_i w; exact w
      · rename_i w; rw [if_neg w] at h; omega
abbrev isNm (bf : Nat → Int32) (a : Nat) : Prop := isLet (bf a) ∨ (0 < a ∧ isDig (bf a))
/-- the length of the name at the beginning of the text -/
def nmLen (bf : Nat → Int32) (ln : Nat) : Nat := first (fun a => ¬ isNm bf a) (fun _ => inferInstance) (min ln 6)
theorem nmLen_le (bf : Nat → Int32) (ln : Nat) : nmLen bf ln ≤ ln ∧ nmLen bf ln ≤ 6 := by
  have h := first_le (p := fun a => ¬ isNm bf a) (dp := fun _ => inferInstance) (min ln 6)
  unfold nmLen; omega
theorem min6 {ln : Nat} (h : ln < 2 ^ 31) : (if (6 : Int32) < nI ln then 6 else nI ln) = nI (min ln 6) := by
  have z : ((6 : Int32) < nI ln) ↔ 6 < ln := nI_ltI (a := 6) (by omega) h
  by_cases q : 6 < ln
  · rw [if_pos (z.mpr q), Nat.min_eq_right (by omega)]; rfl
  · rw [if_neg (fun w => q (z.mp w)), Nat.min_eq_left (by omega)]
/-- what may stand o places behind the name -/
abbrev allw (o : Nat) (ch : Int32) : Prop := o < 21 ∧ ((o % 7 = 0 ∧ ch = 32) ∨ (¬ o % 7 = 0 ∧ isDig ch ∧ (1 < o % 7 ∨ ¬ ch = 48)))
/-- the first fault of the text -/
def faultA (bf : Nat → Int32) (ln : Nat) : Nat := if nmLen bf ln = 0 then 0 else first (fun a => nmLen bf ln ≤ a ∧ ¬ allw (a - nmLen bf ln) (bf a)) (fun _ => inferInstance) ln
theorem faultA_le (bf : Nat → Int32) (ln : Nat) : faultA bf ln ≤ ln := by
  unfold faultA
  split
  · omega
  · exact first_le ln
abbrev isWh (bf : Nat → Int32) (ln : Nat) : Prop := 0 < nmLen bf ln ∧ ln = nmLen bf ln + 21 ∧ faultA bf ln = ln
def cAt (bf : Nat → Int32) (ln a : Nat) : Int32 := if a < ln then bf a else 0
/-- number pl of the text -/
def numA (bf : Nat → Int32) (ln pl : Nat) : Int32 := fr (nmLen bf ln + pl * 7 + 1) (fun a z => 10 * z + cAt bf ln a - 48) 0 (nmLen bf ln + pl * 7 + 1 + 6)
/-- the key of the name -/
def keyA (bf : Nat → Int32) (ln : Nat) : Int64 := fr 0 (fun a z => 128 * z + (if a < nmLen bf ln then bf a else 0).toInt64) 0 6
