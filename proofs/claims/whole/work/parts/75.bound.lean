/-! bounds of powers; the digest's words -/
def pOK (lp : Nat → Int32) (k : Nat) : Prop := ∀ j, j < k → -10000000 ≤ (lp j).toInt ∧ (lp j).toInt ≤ 10000000
theorem vL_b {G : GL} {n k j g : Nat} {lg lp : Nat → Int32} (cl : Int32) (hG : gOK G n) (hL : lOK lg k n) (hp : pOK lp k) (hj : j < k) (hg : g < n) : -50000000000 ≤ (vL G lg lp j g cl).toInt ∧ (vL G lg lp j g cl).toInt ≤ 50000000000 := by
  have p := hp j hj
  have a := vA_i hG (hL j hj).2
  have v := vN_b hG hg cl
  have k1 : (1000 : Int64).toInt = 1000 := by decide
  have k2 : (100000 : Int64).toInt = 100000 := by decide
  have e1 : ((lp j).toInt64 * 1000).toInt = (lp j).toInt * 1000 := by
    rw [z64_mul] <;> rw [z64_of, k1] <;> omega
  have e2 : ((vN G g cl).toInt64 - 100000).toInt = (vN G g cl).toInt - 100000 := by
    rw [z64_sub] <;> rw [z64_of, k2] <;> omega
  have m := mul_s (x := (lp j).toInt * 1000) (y := (vN G g cl).toInt - 100000) (a := 10000000000) (b := 130000) (by omega) (by omega) (by omega) (by omega)
  have e3 : ((lp j).toInt64 * 1000 * ((vN G g cl).toInt64 - 100000)).toInt = (lp j).toInt * 1000 * ((vN G g cl).toInt - 100000) := by
    rw [z64_mul] <;> rw [e1, e2] <;> omega
  unfold vL
  refine fq_b (by omega) (by omega) ?_ ?_ ?_ <;> rw [e3] <;> omega
theorem vP_b {G : GL} {n k : Nat} {lg lp : Nat → Int32} (cl : Int32) (hG : gOK G n) (hL : lOK lg k n) (hp : pOK lp k) (hk : k ≤ 8) : ∀ m, m ≤ k → -(50000000000 * (m : Int)) ≤ (vP G lg lp cl m).toInt ∧ (vP G lg lp cl m).toInt ≤ 50000000000 * (m : Int)
  | 0, _ => by
    show _ ≤ (0 : Int64).toInt ∧ (0 : Int64).toInt ≤ _
    rw [Int64.toInt_zero]; omega
  | m + 1, hm => by
    have h := vP_b cl hG hL hp hk m (by omega)
    have b := vL_b cl hG hL hp (show m < k by omega) (hL m (by omega)).2
    have e : vP G lg lp cl (m + 1) = vP G lg lp cl m + vL G lg lp m (ix (lg m)) cl := by
      unfold vP
      rw [fr_s _ _ (Nat.zero_le m)]
    rw [e, z64_add] <;> omega
theorem vP_m {G : GL} {n k : Nat} {lg lp : Nat → Int32} (cl : Int32) (hG : gOK G n) (hL : lOK lg k n) (hp : pOK lp k) (hk : k ≤ 8) : isMea (vP G lg lp cl k) := by
  have h := vP_b cl hG hL hp hk k (Nat.le_refl k)
  constructor
  · rw [Int64.le_iff_toInt_le, show (-1000000000000 : Int64).toInt = -1000000000000 from by decide]; omega
  · rw [Int64.le_iff_toInt_le, show (1000000000000 : Int64).toInt = 1000000000000 from by decide]; omega
theorem labs_b {x : Int64} {b : Int} (h1 : -b ≤ x.toInt) (h2 : x.toInt ≤ b) (h3 : b < 2 ^ 63) : 0 ≤ (labs x).toInt ∧ (labs x).toInt ≤ b := by
  rw [labs_i (by omega)]
  split <;> omega
theorem vM_nn {G : GL} {n k j g : Nat} {lg lp : Nat → Int32} {a0 a1 a2 : Int64} (hG : gOK G n) (hL : lOK lg k n) (hp : pOK lp k) (hk : k ≤ 8) (h0 : isMea a0) (h1 : isMea a1) (h2 : isMea a2) (hj : j < k) (hg : g < n) : 0 ≤ vM G lg lp (vP G lg lp 0 k - a0) (vP G lg lp 1 k - a1) (vP G lg lp 2 k - a2) j g := by
  have one : ∀ (cl : Int32) (x : Int64), isMea x → 0 ≤ (labs (vP G lg lp cl k - x + vCh G lg lp j g cl)).toInt ∧ (labs (vP G lg lp cl k - x + vCh G lg lp j g cl)).toInt ≤ 2000000000000 := by
    intro cl x hx
    have x1 := Int64.le_iff_toInt_le.mp hx.1
    have x2 := Int64.le_iff_toInt_le.mp hx.2
    rw [show (-1000000000000 : Int64).toInt = -1000000000000 from by decide] at x1
    rw [show (1000000000000 : Int64).toInt = 1000000000000 from by decide] at x2
    have p := vP_b cl hG hL hp hk k (Nat.le_refl k)
    have b1 := vL_b cl hG hL hp hj hg
    have b2 := vL_b cl hG hL hp hj (hL j hj).2
    have e1 : (vP G lg lp cl k - x).toInt = (vP G lg lp cl k).toInt - x.toInt := z64_sub (by omega) (by omega)
    have e2 : (vCh G lg lp j g cl).toInt = (vL G lg lp j g cl).toInt - (vL G lg lp j (ix (lg j)) cl).toInt := by
      unfold vCh
      exact z64_sub (by omega) (by omega)
    have e3 : (vP G lg lp cl k - x + vCh G lg lp j g cl).toInt = (vP G lg lp cl k).toInt - x.toInt + ((vL G lg lp j g cl).toInt - (vL G lg lp j (ix (lg j)) cl).toInt) := by
      rw [z64_add] <;> rw [e1, e2] <;> omega
    exact labs_b (by omega) (by omega) (by omega)
  have b0 := one 0 a0 h0
  have b1 := one 1 a1 h1
  have b2 := one 2 a2 h2
  rw [Int64.le_iff_toInt_le, Int64.toInt_zero]
  unfold vM
  generalize labs (vP G lg lp 0 k - a0 + vCh G lg lp j g 0) = x at *
  generalize labs (vP G lg lp 1 k - a1 + vCh G lg lp j g 1) = y at *
  generalize labs (vP G lg lp 2 k - a2 + vCh G lg lp j g 2) = w at *
  have e1 : (x + y).toInt = x.toInt + y.toInt := z64_add (by omega) (by omega)
  rw [z64_add] <;> rw [e1] <;> omega
/-- the class's scratch rows -/
abbrev RS : Type := DS × (Nat → Int32)
noncomputable def dDz (G : GL) (n : Nat) (h : Int64) (m : Nat) : Int64 := fr 0 (fun u h => mixL (mixL h (sDA G n 0 (nI u))) (sDA G n 1 (nI u))) (mixL h (lN (cntD G n))) m
noncomputable def dDes (G : GL) (n : Nat) (h : Int64) : Int64 := mixL (dDz G n h 4) (bTri G n).1
noncomputable def sDig (bf : Nat → Int32) (ln : Nat) (G : GL) (n : Nat) (lg lp : Nat → Int32) (k : Nat) (rd : Nat → Int32) (np : Nat) : Int64 := dBuf bf ln (mixL (dPls rd np (dLns G lg lp k rd np (dDes G n (dGls G lg lp k n 1831)))) (vWr G lg lp k n (vP G lg lp 0 k) (vP G lg lp 1 k) (vP G lg lp 2 k)))
