/-! what each public call answers, as a pure function of the state -/
def sIndex (G : GL) (n : Nat) (x cl : Int32) : Int64 := if hasP x n then if isCol cl then (vN G (ix x) cl).toInt64 else cOOR else cNSG
def sPlace (G : GL) (n : Nat) (x : Int32) : Int64 := if hasP x n then lN (nBef (gK G) (ix x) n) else cNSG
def sAbbe (G : GL) (n : Nat) (x : Int32) : Int64 := if hasP x n then vAbb G (ix x) else cNSG
def sPart (G : GL) (n : Nat) (x : Int32) : Int64 := if hasP x n then vPar G (ix x) else cNSG
def sWith (G : GL) (n : Nat) (v : Int32) : Int64 := if (lAbb G v.toInt64 n).1 < 0 then cNO else (lAbb G v.toInt64 n).1.toInt64
def sDbl (G : GL) (n : Nat) (i j w v : Int32) : Int64 := if hasP i n ∧ hasP j n then if isPow w ∧ 0 ≤ v ∧ v ≤ 1 then if vE G (ix i) (ix j) = 0 then cNO else fq (1000 * w.toInt64 * (if v = 0 then vA G (ix i) * vB G (ix j) else -(vA G (ix j)) * vB G (ix i))) (vE G (ix i) (ix j)) else cOOR else cNSG
def sSec (G : GL) (n : Nat) (i j w : Int32) : Int64 := if hasP i n ∧ hasP j n then if isPow w then if vE G (ix i) (ix j) = 0 then cNO else fq (1000000 * w.toInt64 * vX G (ix j) (ix i)) (vE G (ix i) (ix j)) else cOOR else cNSG
def vTT (G : GL) (i j k : Nat) : Int64 := vT G i j k + vT G j k i + vT G k i j
def sTri (G : GL) (n : Nat) (i j k w v : Int32) : Int64 := if hasP i n ∧ hasP j n ∧ hasP k n then if i = j ∨ j = k ∨ k = i then cDUP else if isPow w ∧ 0 ≤ v ∧ v ≤ 2 then if vTT G (ix i) (ix j) (ix k) = 0 then cNO else fq (w.toInt64 * (if v = 0 then vT G (ix i) (ix j) (ix k) else if v = 1 then vT G (ix j) (ix k) (ix i) else vT G (ix k) (ix i) (ix j))) (vTT G (ix i) (ix j) (ix k)) else cOOR else cNSG
def aP (a b : Int64) : Int64 := labs (fq (10000 * a) b)
def gTri (G : GL) (i j k : Nat) : Int64 := if vTT G i j k = 0 then -1 else lmax (aP (vT G i j k) (vTT G i j k)) (lmax (aP (vT G j k i) (vTT G i j k)) (aP (vT G k i j) (vTT G i j k)))
def bTri3 (G : GL) (n i j : Nat) (b : Int64 × Int64) : Int64 × Int64 := fr (j + 1) (fun k b => pick b (lN (10000 * i + 100 * j + k)) (gTri G i j k)) b n
def bTri2 (G : GL) (n i : Nat) (b : Int64 × Int64) : Int64 × Int64 := fr (i + 1) (fun j b => bTri3 G n i j b) b n
def bTri (G : GL) (n : Nat) : Int64 × Int64 := fr 0 (fun i b => bTri2 G n i b) (cNO, 0) n
def sSys (G : GL) (lg lp : Nat → Int32) (k : Nat) (cl : Int32) : Int64 := if isCol cl then vP G lg lp cl k else cOOR
def vBal (G : GL) (lg lp : Nat → Int32) (k g : Nat) : Int64 := fq (-(vP G lg lp 0 k - vP G lg lp 2 k) * vA G g) (1000 * vB G g)
def sBal (G : GL) (lg lp : Nat → Int32) (k n : Nat) (x : Int32) : Int64 := if hasP x n then vBal G lg lp k (ix x) else cNSG
def vM (G : GL) (lg lp : Nat → Int32) (e0 e1 e2 : Int64) (j g : Nat) : Int64 := labs (e0 + vCh G lg lp j g 0) + labs (e1 + vCh G lg lp j g 1) + labs (e2 + vCh G lg lp j g 2)
def wrg2 (G : GL) (lg lp : Nat → Int32) (n : Nat) (e0 e1 e2 : Int64) (j : Nat) (b : Int64 × Int64) : Int64 × Int64 := fr 0 (fun g b => pick b (lN (100 * j + g)) (if nI g = lg j then -1 else vM G lg lp e0 e1 e2 j g)) b n
def wrg (G : GL) (lg lp : Nat → Int32) (k n : Nat) (e0 e1 e2 : Int64) : Int64 × Int64 := fr 0 (fun j b => wrg2 G lg lp n e0 e1 e2 j b) (cNO, 0) k
def vWr (G : GL) (lg lp : Nat → Int32) (k n : Nat) (a0 a1 a2 : Int64) : Int64 := (wrg G lg lp k n (vP G lg lp 0 k - a0) (vP G lg lp 1 k - a1) (vP G lg lp 2 k - a2)).1
def sWr (G : GL) (lg lp : Nat → Int32) (k n : Nat) (a0 a1 a2 : Int64) : Int64 := if isMea a0 ∧ isMea a1 ∧ isMea a2 then vWr G lg lp k n a0 a1 a2 else cOOR
def sNear (rd : Nat → Int32) (np : Nat) (r : Int32) : Int64 := if (near rd r np).1 < 0 then cNO else (near rd r np).1.toInt64
def pB (rd : Nat → Int32) (a : Int64) (f g : Nat) : Int64 := fq (a * 10000000 * (sR rd g - sR rd f)) (sR rd f * sR rd g)
def bSrf2 (rd : Nat → Int32) (np : Nat) (a w : Int64) (f : Nat) (b : Int64 × Int64) : Int64 × Int64 := fr 0 (fun g b => pick b (lN (1000 * (f / 2) + 10 * (g / 2) + 2 * (f % 2) + g % 2)) (if f = g then -1 else labs (pB rd a f g - w))) b (2 * np)
def bSrf (rd : Nat → Int32) (np : Nat) (a w : Int64) : Int64 × Int64 := fr 0 (fun f b => bSrf2 rd np a w f b) (cNO, 0) (2 * np)
def vBS (G : GL) (lg lp : Nat → Int32) (rd : Nat → Int32) (np j : Nat) : Int64 := (bSrf rd np (vA G (ix (lg j))) (lp j).toInt64).1
def sBS (G : GL) (lg lp : Nat → Int32) (k : Nat) (rd : Nat → Int32) (np : Nat) (x : Int32) : Int64 := if hasP x k then vBS G lg lp rd np (ix x) else cNSL
def sSP (G : GL) (n : Nat) (rd : Nat → Int32) (np : Nat) (x y : Int32) : Int64 := if hasP x n then if 0 ≤ y ∧ ix y % 10 ≤ 3 ∧ ix y / 1000 < np ∧ ix y / 10 % 100 < np then if 2 * (ix y / 1000) + ix y % 10 / 2 = 2 * (ix y / 10 % 100) + ix y % 2 then cOOR else pB rd (vA G (ix x)) (2 * (ix y / 1000) + ix y % 10 / 2) (2 * (ix y / 10 % 100) + ix y % 2) else cOOR else cNSG
/-- the digest's pieces -/
def dGl (G : GL) (lg lp : Nat → Int32) (k n g : Nat) (h : Int64) : Int64 := mixL (mixL (mixL (mixL (mixL (mixL (mixL h (gF G g).toInt64) (gD G g).toInt64) (gC G g).toInt64) (lN (nBef (gK G) g n))) (vAbb G g)) (vPar G g)) (vBal G lg lp k g)
def dGls (G : GL) (lg lp : Nat → Int32) (k n : Nat) (h : Int64) : Int64 := fr 0 (fun g h => dGl G lg lp k n g h) (mixL h (lN n)) n
def dLn (G : GL) (lg lp : Nat → Int32) (rd : Nat → Int32) (np j : Nat) (h : Int64) : Int64 := mixL (mixL (mixL h (lg j).toInt64) (lp j).toInt64) (vBS G lg lp rd np j)
def dLns (G : GL) (lg lp : Nat → Int32) (k : Nat) (rd : Nat → Int32) (np : Nat) (h : Int64) : Int64 := mixL (mixL (mixL (fr 0 (fun j h => dLn G lg lp rd np j h) (mixL h (lN k)) k) (vP G lg lp 0 k)) (vP G lg lp 1 k)) (vP G lg lp 2 k)
def dPls (rd : Nat → Int32) (np : Nat) (h : Int64) : Int64 := fr 0 (fun f h => mixL h (rd f).toInt64) (mixL h (lN np)) np
def dBuf (bf : Nat → Int32) (ln : Nat) (h : Int64) : Int64 := fr 0 (fun a h => mixL h (bf a).toInt64) (mixL h (lN ln)) ln
theorem nBef_le (K : Nat → Int64) (g : Nat) : ∀ n, nBef K g n ≤ n
  | 0 => Nat.le_refl 0
  | n + 1 => by
    have h := nBef_le K g n
    unfold nBef at h ⊢
    rw [fr_s _ _ (Nat.zero_le n)]
    split <;> omega
theorem pick_own {P : Prop} {dP : Decidable P} (h : P) (b : Int64 × Int64) (cd v : Int64) : pick b cd (if P then -1 else v) = b := by
  rw [if_pos h]
  exact if_neg (fun w => absurd w.1 (by decide))
theorem pick_oth {P : Prop} {dP : Decidable P} {v : Int64} (h : ¬ P) (hv : 0 ≤ v) (b : Int64 × Int64) (cd : Int64) : pick b cd (if P then -1 else v) = if b.1 = cNO ∨ v < b.2 then (cd, v) else b := by
  rw [if_neg h]
  unfold pick
  by_cases q : b.1 = cNO ∨ v < b.2
  · rw [if_pos q, if_pos ⟨hv, q⟩]
  · rw [if_neg q, if_neg (fun w => q w.2)]
theorem hasP_iff {g n : Nat} (hg : g < 2 ^ 31) (hn : n < 2 ^ 31) : hasP (nI g) n ↔ g < n := ⟨fun h => (nI_ltI hg hn).mp h.2, fun h => hasP_nI hn h⟩
theorem isCol_nI {j : Nat} (h : j < 3) : isCol (nI j) := by
  have : j = 0 ∨ j = 1 ∨ j = 2 := by omega
  rcases this with rfl | rfl | rfl <;> decide
theorem dCol (G : GL) (g : Nat) (h : Int64) : fr 0 (fun j h => mixL h (vN G g (nI j)).toInt64) h 3 = mixL (mixL (mixL h (gF G g).toInt64) (gD G g).toInt64) (gC G g).toInt64 := rfl
theorem dSys (G : GL) (lg lp : Nat → Int32) (k : Nat) (h : Int64) : fr 0 (fun j h => mixL h (vP G lg lp (nI j) k)) h 3 = mixL (mixL (mixL h (vP G lg lp 0 k)) (vP G lg lp 1 k)) (vP G lg lp 2 k) := rfl
/-- as Met.ofW, for a method of the library that no native row has -/
theorem met_ofWF {l : Launch} {y : MethodName} {ws ws' : List Cond} {rm : Room} {Pc : Array Value → State → Prop} {Qc : Array Value → State → Outcome → State → Prop} {mc ms : Nat} {free : Addr → Prop} {cc : ByteArray} {maxL : Nat} {ret : Option FieldType}
    (hy : plainFor y = true) (hw : ws = Cond.code y cc maxL ret :: ws')
    (body : ∀ p e s m args below meth c s₁, BodyLoose p l y (headSpec ws rm) cc maxL ret e s m args below meth c s₁ → c.maxLocals = maxL → Pc args s →
      W p l e (headSpec ws rm).room s m args below meth c s.heap [] 0 0 (MQ below Qc args s mc ms free) (entryFrame m args maxL)) : Met l y ws rm Pc Qc mc ms free := by
  refine MetFree.of_bodySF (code := cc) (maxLocals := maxL) (ret := ret) hy ?_ ?_
  · intro args s m h hn
    obtain ⟨meth, c, h1, h2, h3, h4, h5, h6, -, -⟩ := Cond.code_spec hn (atoms_spec (ws := ws) h _ (by rw [hw]; exact List.mem_cons_self))
    exact ⟨meth, c, h1, h2, h3, h4, h5, h6⟩
  · intro p e s m args below meth c s₁ B hml hP _
    have hh0 : s₁.heap = s.heap := by rw [B.state]; rfl
    obtain ⟨t, a1, o, b1, b2, b3⟩ := body p e s m args below meth c s₁ B hml hP s₁ hh0 (Stand.of_body B)
    exact ⟨t, o, a1, b1, b2, ⟨b3.1, b3.2⟩⟩
/-- the heap and the places written get names at a method's start -/
theorem mu_in {p : Program} {l : Launch} {e : Env} {R : Room} {s : State} {m : MethodId} {args : Array Value} {below : List Frame} {meth : Method} {c : Code} {H : Heap} {locs : List Loc} {cells slots : Nat} {Q : State → Prop} {g : JFrame} {A : Nat → Prop} {D : va_G} {cl : List vw_C} {ws : va_W} (hH : H = s.heap) (hl : locs = [])
    (k : va_S A s.heap H locs → va_P D cl ws H → va_D A ws → W p l e R s m args below meth c H locs cells slots Q g) (hS : va_S A s.heap s.heap []) (hP : va_P D cl ws s.heap) (hD : va_D A ws) : W p l e R s m args below meth c s.heap [] cells slots Q g := by
  subst hH; subst hl
  exact k hS hP hD
/-- the places from g on take what stands one behind, up to k -/
def shf {α : Type} (f : Nat → α) (g k : Nat) : Nat → α := fun j => if g ≤ j ∧ j + 1 < k then f (j + 1) else f j
theorem shf_0 {α : Type} (f : Nat → α) (g : Nat) : shf f g (g + 1) = f := by
  funext j
  unfold shf
  rw [if_neg (by omega)]
theorem shf_at {α : Type} (f : Nat → α) (g k : Nat) : shf f g k k = f k := by
  unfold shf
  rw [if_neg (by omega)]
theorem shf_s (f : Nat → Int32) {g k : Nat} (h : g + 1 ≤ k) : upd (shf f g k) (k - 1) (f k) = shf f g (k + 1) := by
  funext j
  by_cases q : j = k - 1
  · subst q
    rw [pk_us, shf, if_pos (by omega), show k - 1 + 1 = k by omega]
  · rw [pk_un q]
    unfold shf
    by_cases z : g ≤ j ∧ j + 1 < k
    · rw [if_pos z, if_pos (by omega)]
    · rw [if_neg z, if_neg (by omega)]
theorem shf_sL (f : Nat → Int64) {g k : Nat} (h : g + 1 ≤ k) : vp_updL (shf f g k) (k - 1) (f k) = shf f g (k + 1) := by
  funext j
  by_cases q : j = k - 1
  · subst q
    rw [pk_uLs, shf, if_pos (by omega), show k - 1 + 1 = k by omega]
  · rw [pk_uLn q]
    unfold shf
    by_cases z : g ≤ j ∧ j + 1 < k
    · rw [if_pos z, if_pos (by omega)]
    · rw [if_neg z, if_neg (by omega)]
/-- numbers above x go down by one, the first k of them -/
def cg (f : Nat → Int32) (x : Int32) (k : Nat) : Nat → Int32 := fun j => if j < k ∧ x < f j then f j - 1 else f j
theorem cg_0 (f : Nat → Int32) (x : Int32) : cg f x 0 = f := by
  funext j
  unfold cg
  rw [if_neg (by omega)]
theorem cg_at (f : Nat → Int32) (x : Int32) (k : Nat) : cg f x k k = f k := by
  unfold cg
  rw [if_neg (by omega)]
theorem cg_s (f : Nat → Int32) (x : Int32) (k : Nat) : upd (cg f x k) k (if x < f k then f k - 1 else f k) = cg f x (k + 1) := by
  funext j
  by_cases q : j = k
  · subst q
    rw [pk_us, cg]
    by_cases z : x < f j
    · rw [if_pos z, if_pos ⟨by omega, z⟩]
    · rw [if_neg z, if_neg (fun w => z w.2)]
  · rw [pk_un q]
    unfold cg
    by_cases z : j < k ∧ x < f j
    · rw [if_pos z, if_pos ⟨by omega, z.2⟩]
    · rw [if_neg z, if_neg (fun w => z ⟨by omega, w.2⟩)]
theorem cg_y {f : Nat → Int32} {x : Int32} {k : Nat} (h : x < f k) : upd (cg f x k) k (f k - 1) = cg f x (k + 1) := by rw [← cg_s, if_pos h]
theorem cg_n {f : Nat → Int32} {x : Int32} {k : Nat} (h : ¬ x < f k) : cg f x k = cg f x (k + 1) := by
  funext j
  unfold cg
  by_cases z : j < k ∧ x < f j
  · rw [if_pos z, if_pos ⟨by omega, z.2⟩]
  · rw [if_neg z, if_neg (fun w => z ⟨by
      have : j ≠ k := fun e => h (e ▸ w.2)
      omega, w.2⟩)]
/-- a glass more, a glass less -/
def addG (G : GL) (n : Nat) (y : Int64) (f d k : Int32) : GL := (vp_updL (gK G) n y, upd (gF G) n f, upd (gD G) n d, upd (gC G) n k)
def rmG (G : GL) (g n : Nat) : GL := (shf (gK G) g n, shf (gF G) g n, shf (gD G) g n, shf (gC G) g n)
/-! the calls that change the state: the answer and what is left -/
abbrev TX : Type := (Nat → Int32) × Nat
def sApp (bf : Nat → Int32) (ln : Nat) (x : Int32) : Int64 × TX := if 32 ≤ x ∧ x ≤ 126 then if ln = 28 then (cFULL, bf, ln) else (lN (ln + 1), upd bf ln x, ln + 1) else (cOOR, bf, ln)
abbrev AG : Type := Nat × GL × Nat
def sAdG (bf : Nat → Int32) (ln : Nat) (G : GL) (n : Nat) : Int64 × AG := if isWh bf ln then if isGl (numA bf ln 0) (numA bf ln 1) (numA bf ln 2) then if n = 20 then (cFULL, ln, G, n) else if (∃ g, g < n ∧ gK G g = keyA bf ln) then (cDUP, ln, G, n) else (lN n, 0, addG G n (keyA bf ln) (numA bf ln 0) (numA bf ln 1) (numA bf ln 2), n + 1) else (cOOR, ln, G, n) else (cINV, ln, G, n)
abbrev RG : Type := GL × Nat × (Nat → Int32)
def sRmG (G : GL) (n : Nat) (lg : Nat → Int32) (k : Nat) (x : Int32) : Int64 × RG := if hasP x n then if (∃ g, g < k ∧ lg g = x) then (cUSE, G, n, lg) else (lN (n - 1), rmG G (ix x) n, n - 1, cg lg x k) else (cNSG, G, n, lg)
abbrev LE : Type := (Nat → Int32) × (Nat → Int32) × Nat
def sAdL (n : Nat) (lg lp : Nat → Int32) (k : Nat) (x y : Int32) : Int64 × LE := if hasP x n then if -10000000 ≤ y ∧ y ≤ 10000000 then if k = 8 then (cFULL, lg, lp, k) else (lN k, upd lg k x, upd lp k y, k + 1) else (cOOR, lg, lp, k) else (cNSG, lg, lp, k)
def sRmL (lg lp : Nat → Int32) (k : Nat) (x : Int32) : Int64 × LE := if hasP x k then (lN (k - 1), shf lg (ix x) k, shf lp (ix x) k, k - 1) else (cNSL, lg, lp, k)
def sAdP (rd : Nat → Int32) (np : Nat) (x : Int32) : Int64 × TX := if 1000 ≤ x ∧ x ≤ 1000000 then if (∃ g, g < np ∧ rd g = x) then (cDUP, rd, np) else if np = 16 then (cFULL, rd, np) else (lN np, upd rd np x, np + 1) else (cOOR, rd, np)
