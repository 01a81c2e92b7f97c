/-! the reference's search for the next doublet -/
def oF (z : Option (Nat × Nat)) : Int32 := match z with
  | none => -1
  | some d => nI d.1
def oS (z : Option (Nat × Nat)) : Int32 := match z with
  | none => -1
  | some d => nI d.2
def aftB (G : GL) (bs : Int32) (cu : Option (Nat × Nat)) (i j : Nat) : Bool := match cu with
  | none => true
  | some d => decide (befM G bs d.1 d.2 i j)
def bfrB (G : GL) (bs : Int32) (i j : Nat) (z : Option (Nat × Nat)) : Bool := match z with
  | none => true
  | some d => decide (befM G bs i j d.1 d.2)
def nx1 (G : GL) (bs : Int32) (cu : Option (Nat × Nat)) (i j : Nat) (z : Option (Nat × Nat)) : Option (Nat × Nat) := if 0 < vE G i j ∧ aftB G bs cu i j = true ∧ bfrB G bs i j z = true then some (i, j) else z
def nx2 (G : GL) (n : Nat) (bs : Int32) (cu : Option (Nat × Nat)) (i : Nat) (z : Option (Nat × Nat)) : Option (Nat × Nat) := fr 0 (fun j z => nx1 G bs cu i j z) z n
def nxF (G : GL) (n : Nat) (bs : Int32) (cu : Option (Nat × Nat)) : Option (Nat × Nat) := fr 0 (fun i z => nx2 G n bs cu i z) none n
theorem oF_neg {n : Nat} {z : Option (Nat × Nat)} (hn : n ≤ 20) (h : ∀ d, z = some d → d.1 < n) (h2 : oF z < 0) : z = none := by
  cases z with
  | none => rfl
  | some d => exact absurd h2 (nI_pos (by have := h d rfl; omega))
theorem oF_pos {z : Option (Nat × Nat)} (h2 : ¬ oF z < 0) : ∃ d, z = some d := by
  cases z with
  | none => exact absurd (by decide) h2
  | some d => exact ⟨d, rfl⟩
theorem nx1_lt {G : GL} {bs : Int32} {cu z : Option (Nat × Nat)} {n i j : Nat} (hi : i < n) (hj : j < n) (h : ∀ d, z = some d → d.1 < n ∧ d.2 < n) : ∀ d, nx1 G bs cu i j z = some d → d.1 < n ∧ d.2 < n := by
  intro d hd
  unfold nx1 at hd
  split at hd
  · cases hd; exact ⟨hi, hj⟩
  · exact h d hd
theorem fr_inv {σ : Type} {f : Nat → σ → σ} {z : σ} (Iv : Nat → σ → Prop) (h0 : Iv 0 z) {n : Nat} (hs : ∀ k w, k < n → Iv k w → Iv (k + 1) (f k w)) : ∀ m, m ≤ n → Iv m (fr 0 f z m)
  | 0, _ => h0
  | m + 1, hm => by
    rw [fr_s _ _ (Nat.zero_le m)]
    exact hs m _ (by omega) (fr_inv Iv h0 hs m (by omega))
theorem nxF_lt {G : GL} {n : Nat} {bs : Int32} {cu : Option (Nat × Nat)} : ∀ d, nxF G n bs cu = some d → d.1 < n ∧ d.2 < n := by
  refine fr_inv (f := fun i z => nx2 G n bs cu i z) (z := none) (fun _ z => ∀ d, z = some d → d.1 < n ∧ d.2 < n) (fun d h => by cases h) (n := n) (fun i w hi hw => ?_) n (Nat.le_refl n)
  exact fr_inv (f := fun j z => nx1 G bs cu i j z) (z := w) (fun _ z => ∀ d, z = some d → d.1 < n ∧ d.2 < n) hw (n := n) (fun j w hj hw => nx1_lt hi hj hw) n (Nat.le_refl n)
abbrev prD (l : Nat) : Nat × Nat := (l / 20, l % 20)
def cand (G : GL) (n : Nat) (bs : Int32) (cu : Option Nat) (l : Nat) : Prop := isD G n l ∧ ∀ x, cu = some x → BF G bs x l
def minB (G : GL) (n : Nat) (bs : Int32) (cu : Option Nat) (bd : Nat) (z : Option (Nat × Nat)) : Prop := (z = none ∧ ∀ l, l < bd → ¬ cand G n bs cu l) ∨ ∃ y, y < bd ∧ cand G n bs cu y ∧ z = some (prD y) ∧ ∀ l, l < bd → cand G n bs cu l → l = y ∨ BF G bs y l
theorem minB_step {G : GL} {n : Nat} {bs : Int32} {cu : Option Nat} {i j : Nat} {z : Option (Nat × Nat)} (hG : gOK G n) (hn : n ≤ 20) (hcu : ∀ x, cu = some x → isD G n x) (hi : i < n) (hj : j < n) (h : minB G n bs cu (20 * i + j) z) : minB G n bs cu (20 * i + j + 1) (nx1 G bs (cu.map prD) i j z) := by
  have q1 : (20 * i + j) / 20 = i := by omega
  have q2 : (20 * i + j) % 20 = j := by omega
  have hp : prD (20 * i + j) = (i, j) := by show ((20 * i + j) / 20, (20 * i + j) % 20) = (i, j); rw [q1, q2]
  have hD : isD G n (20 * i + j) ↔ 0 < vE G i j := by
    unfold isD
    rw [q1, q2]
    exact ⟨fun w => w.2.2, fun w => ⟨hi, hj, w⟩⟩
  have hc : cand G n bs cu (20 * i + j) ↔ 0 < vE G i j ∧ aftB G bs (cu.map prD) i j = true := by
    unfold cand
    rw [hD]
    refine and_congr_right (fun w => ?_)
    cases cu with
    | none => exact ⟨fun _ => rfl, fun _ x hx => by cases hx⟩
    | some x =>
      have b := befM_iff bs hG (hcu x rfl) (hD.mpr w)
      rw [q1, q2] at b
      constructor
      · intro g
        exact decide_eq_true (b.mpr (g x rfl))
      · intro g x' hx'
        cases hx'
        exact b.mp (of_decide_eq_true g)
  unfold nx1
  by_cases k : cand G n bs cu (20 * i + j)
  · rcases h with ⟨rfl, h⟩ | ⟨y, h1, h2, rfl, h3⟩
    · rw [if_pos ⟨(hc.mp k).1, (hc.mp k).2, rfl⟩]
      refine Or.inr ⟨20 * i + j, by omega, k, by rw [hp], fun l hl hcl => ?_⟩
      by_cases q : l = 20 * i + j
      · exact Or.inl q
      · exact absurd hcl (h l (by omega))
    · have b := befM_iff bs hG k.1 h2.1
      rw [q1, q2] at b
      by_cases r : BF G bs (20 * i + j) y
      · rw [if_pos ⟨(hc.mp k).1, (hc.mp k).2, decide_eq_true (b.mpr r)⟩]
        refine Or.inr ⟨20 * i + j, by omega, k, by rw [hp], fun l hl hcl => ?_⟩
        by_cases q : l = 20 * i + j
        · exact Or.inl q
        · rcases h3 l (by omega) hcl with w | w
          · subst w; exact Or.inr r
          · exact Or.inr (BF_tr (z_b hG k.1).1 (z_b hG h2.1).1 (z_b hG hcl.1).1 r w)
      · rw [if_neg (fun w => r (b.mp (of_decide_eq_true w.2.2)))]
        refine Or.inr ⟨y, by omega, h2, rfl, fun l hl hcl => ?_⟩
        by_cases q : l = 20 * i + j
        · subst q
          rcases BF_tot G bs (show y ≠ 20 * i + j by omega) with w | w
          · exact Or.inr w
          · exact absurd w r
        · exact h3 l (by omega) hcl
  · rw [if_neg (fun w => k (hc.mpr ⟨w.1, w.2.1⟩))]
    have ext : ∀ l, l < 20 * i + j + 1 → cand G n bs cu l → l < 20 * i + j := by
      intro l hl hcl
      by_cases q : l = 20 * i + j
      · subst q; exact absurd hcl k
      · omega
    rcases h with ⟨rfl, h⟩ | ⟨y, h1, h2, rfl, h3⟩
    · exact Or.inl ⟨rfl, fun l hl hcl => h l (ext l hl hcl) hcl⟩
    · exact Or.inr ⟨y, by omega, h2, rfl, fun l hl hcl => h3 l (ext l hl hcl) hcl⟩
theorem minB_all {G : GL} {n : Nat} {bs : Int32} {cu : Option Nat} (hG : gOK G n) (hn : n ≤ 20) (hcu : ∀ x, cu = some x → isD G n x) : minB G n bs cu (20 * n) (nxF G n bs (cu.map prD)) := by
  refine fr_inv (f := fun i z => nx2 G n bs (cu.map prD) i z) (z := none) (fun i z => minB G n bs cu (20 * i) z) (Or.inl ⟨rfl, fun l h => absurd h (by omega)⟩) (n := n) (fun i w hi hw => ?_) n (Nat.le_refl n)
  have g := fr_inv (f := fun j z => nx1 G bs (cu.map prD) i j z) (z := w) (fun j z => minB G n bs cu (20 * i + j) z) hw (n := n) (fun j w hj hw => minB_step hG hn hcu hi hj hw) n (Nat.le_refl n)
  have ext : ∀ l, l < 20 * (i + 1) → cand G n bs cu l → l < 20 * i + n := by
    intro l hl hcl
    have := hcl.1.2.1
    have := hcl.1.1
    omega
  show minB G n bs cu (20 * (i + 1)) (fr 0 (fun j z => nx1 G bs (cu.map prD) i j z) w n)
  rcases g with ⟨e, h⟩ | ⟨y, h1, h2, e, h3⟩
  · exact Or.inl ⟨e, fun l hl hcl => h l (ext l hl hcl) hcl⟩
  · exact Or.inr ⟨y, by omega, h2, e, fun l hl hcl => h3 l (ext l hl hcl) hcl⟩
theorem nxF_is {G : GL} {n : Nat} {bs : Int32} {cu : Option Nat} {d : Nat} (hG : gOK G n) (hn : n ≤ 20) (hcu : ∀ x, cu = some x → isD G n x) (h : isNx G n bs cu d) : nxF G n bs (cu.map prD) = some (prD d) := by
  have hd : d < 20 * n := by have := h.1.1; omega
  rcases minB_all (bs := bs) hG hn hcu with ⟨_, g⟩ | ⟨y, h1, h2, e, h3⟩
  · exact absurd ⟨h.1, h.2.1⟩ (g d hd)
  · have : isNx G n bs cu y := ⟨h2.1, h2.2, fun l hl hb => h3 l (by have := hl.1; omega) ⟨hl, hb⟩⟩
    rw [e, isNx_u this h]
/-- the reference's walk through the order -/
def sqF (G : GL) (n : Nat) (bs : Int32) (_ : Nat) (z : Option (Nat × Nat) × Int32) : Option (Nat × Nat) × Int32 := (nxF G n bs z.1, oS (nxF G n bs z.1))
theorem sq_at {G : GL} {n : Nat} {bs : Int32} (o : Int32) (hG : gOK G n) (hn : n ≤ 20) : ∀ k, k < cntD G n → ∃ d, isAt G n bs k d ∧ fr 0 (sqF G n bs) (none, o) (k + 1) = (some (prD d), nI (d % 20))
  | 0, hk => by
    obtain ⟨d, hd⟩ := at_ex bs hG hn hk
    have e := nxF_is (cu := none) hG hn (fun x hx => by cases hx) hd
    refine ⟨d, hd, ?_⟩
    show (nxF G n bs none, oS (nxF G n bs none)) = _
    rw [show nxF G n bs none = some (prD d) from e]
    rfl
  | k + 1, hk => by
    obtain ⟨d, hd⟩ := at_ex bs hG hn hk
    obtain ⟨x, h1, h2⟩ := hd
    obtain ⟨x', h3, h4⟩ := sq_at (bs := bs) o hG hn k (by omega)
    have hx := isAt_u h1 h3
    subst hx
    have e := nxF_is (cu := some x) hG hn (fun y hy => by cases hy; exact isAt_D h1) h2
    refine ⟨d, ⟨x, h1, h2⟩, ?_⟩
    rw [fr_s _ _ (Nat.zero_le (k + 1)), h4]
    show (nxF G n bs (some (prD x)), oS (nxF G n bs (some (prD x)))) = _
    rw [show nxF G n bs (some (prD x)) = some (prD d) from e]
    rfl
theorem w_cnt (x : Int32) {n : Nat} (hn : n < 2 ^ 30) : wthn x.toInt64 0 (lN n - 1) ↔ hasP x n := by
  rw [← w_glass x hn]
  have e : lN n - 1 = (nI n - 1).toInt64 := by
    apply Int64.toInt_inj.mp
    rw [z64_of, z64_sub, z32_sub, pk_lT (by omega), nI_toInt (by omega), show (1 : Int64).toInt = 1 from by decide, show (1 : Int32).toInt = 1 from by decide] <;> (try rw [nI_toInt (by omega)]) <;> (try rw [pk_lT (by omega)]) <;> (try rw [show (1 : Int64).toInt = 1 from by decide]) <;> (try rw [show (1 : Int32).toInt = 1 from by decide]) <;> omega
  rw [e]
theorem cnt_le {G : GL} {n : Nat} (hG : gOK G n) (hn : n ≤ 20) : cntD G n ≤ 190 := by
  have h := (col_all (z := ((0 : Nat), (fun _ => 0), (fun _ => 0), (fun _ => 0), (fun _ => 0))) hG hn rfl).1
  rw [col_c G n _ rfl] at h
  exact h
/-- with fewer than two glasses nothing is found -/
theorem wrg_small {G : GL} {lg lp : Nat → Int32} {k n : Nat} (e0 e1 e2 : Int64) (hL : lOK lg k n) (hn : n < 2) : wrg G lg lp k n e0 e1 e2 = (cNO, 0) := by
  refine fr_inv (f := fun j b => wrg2 G lg lp n e0 e1 e2 j b) (z := ((cNO, 0) : Int64 × Int64)) (fun _ b => b = (cNO, 0)) rfl (n := k) (fun j w hj hw => ?_) k (Nat.le_refl k)
  rw [hw]
  refine fr_inv (f := fun g b => pick b (lN (100 * j + g)) (if nI g = lg j then -1 else vM G lg lp e0 e1 e2 j g)) (z := ((cNO, 0) : Int64 × Int64)) (fun _ b => b = (cNO, 0)) rfl (n := n) (fun g w hg hw => ?_) n (Nat.le_refl n)
  rw [hw]
  have h := hL j hj
  have e : nI g = lg j := by rw [h.1]; congr 1; omega
  exact pick_own e _ _ _
/-- shifted by three -/
def sh3 (f : Nat → Int32) (lo k : Nat) : Nat → Int32 := fun j => if lo ≤ j ∧ j < k then f (j + 3) else f j
theorem sh3_0 (f : Nat → Int32) (lo : Nat) : sh3 f lo lo = f := by
  funext j
  unfold sh3
  rw [if_neg (by omega)]
theorem sh3_at (f : Nat → Int32) (lo k : Nat) : sh3 f lo k (k + 3) = f (k + 3) := by
  unfold sh3
  rw [if_neg (by omega)]
theorem sh3_s (f : Nat → Int32) {lo k : Nat} (h : lo ≤ k) : upd (sh3 f lo k) k (f (k + 3)) = sh3 f lo (k + 1) := by
  funext j
  by_cases q : j = k
  · subst q
    rw [pk_us, sh3, if_pos (by omega)]
  · rw [pk_un q]
    unfold sh3
    by_cases z : lo ≤ j ∧ j < k
    · rw [if_pos z, if_pos (by omega)]
    · rw [if_neg z, if_neg (by omega)]
theorem ilv_rm (G : GL) {g n : Nat} (h : g < n) : sh3 (ilv G) (3 * g) (3 * (n - 1)) = ilv (rmG G g n) := by
  funext j
  unfold sh3
  by_cases z : 3 * g ≤ j ∧ j < 3 * (n - 1)
  · rw [if_pos z]
    have w : g ≤ j / 3 ∧ j / 3 + 1 < n := by omega
    unfold ilv
    rw [show (j + 3) % 3 = j % 3 by omega, show (j + 3) / 3 = j / 3 + 1 by omega]
    show _ = if j % 3 = 0 then shf (gF G) g n (j / 3) else if j % 3 = 1 then shf (gD G) g n (j / 3) else shf (gC G) g n (j / 3)
    unfold shf
    rw [if_pos w, if_pos w, if_pos w]
  · rw [if_neg z]
    have w : ¬ (g ≤ j / 3 ∧ j / 3 + 1 < n) := by omega
    unfold ilv
    show _ = if j % 3 = 0 then shf (gF G) g n (j / 3) else if j % 3 = 1 then shf (gD G) g n (j / 3) else shf (gC G) g n (j / 3)
    unfold shf
    rw [if_neg w, if_neg w, if_neg w]
theorem ilv_add (G : GL) (n : Nat) (y : Int64) (f d k : Int32) : upd (upd (upd (ilv G) (3 * n + 0) f) (3 * n + 1) d) (3 * n + 2) k = ilv (addG G n y f d k) := by
  funext j
  show _ = if j % 3 = 0 then upd (gF G) n f (j / 3) else if j % 3 = 1 then upd (gD G) n d (j / 3) else upd (gC G) n k (j / 3)
  by_cases q2 : j = 3 * n + 2
  · subst q2
    rw [pk_us, if_neg (by omega), if_neg (by omega), show (3 * n + 2) / 3 = n by omega, pk_us]
  · rw [pk_un q2]
    by_cases q1 : j = 3 * n + 1
    · subst q1
      rw [pk_us, if_neg (by omega), if_pos (by omega), show (3 * n + 1) / 3 = n by omega, pk_us]
    · rw [pk_un q1]
      by_cases q0 : j = 3 * n + 0
      · subst q0
        rw [pk_us, if_pos (by omega), show (3 * n + 0) / 3 = n by omega, pk_us]
      · rw [pk_un q0]
        unfold ilv
        by_cases r0 : j % 3 = 0
        · rw [if_pos r0, if_pos r0, pk_un (by omega)]
        · rw [if_neg r0, if_neg r0]
          by_cases r1 : j % 3 = 1
          · rw [if_pos r1, if_pos r1, pk_un (by omega)]
          · rw [if_neg r1, if_neg r1, pk_un (by omega)]
theorem cg_z {f : Nat → Int32} {x : Int32} {k : Nat} (h : ¬ x < f k) : upd (cg f x k) k (f k - 0) = cg f x (k + 1) := by
  rw [← cg_s, if_neg h]
  congr 1
  exact Int32.sub_zero _
