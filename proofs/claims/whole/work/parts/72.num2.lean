/-! more words of the reference -/
theorem vE_irr {G : GL} {i j : Nat} (h : i = j) : ¬ 0 < vE G i j := by
  subst h
  unfold vE
  rw [Int64.sub_self]
  decide
def cSp (G : GL) (i j k l : Nat) : Int64 := labs (vX G j i) * vE G k l - labs (vX G l k) * vE G i j
def cSt (G : GL) (i j k l : Nat) : Int64 := vStr G i j * vE G k l - vStr G k l * vE G i j
abbrev bf3 (x y : Int64) (i j k l : Nat) : Prop := x < 0 ∨ (x = 0 ∧ (y < 0 ∨ (y = 0 ∧ (i < k ∨ (i = k ∧ j < l)))))
abbrev befM (G : GL) (bs : Int32) (i j k l : Nat) : Prop := bf3 (if bs = 0 then cSp G i j k l else cSt G i j k l) (if bs = 0 then cSt G i j k l else cSp G i j k l) i j k l
theorem lt0_of {x : Int64} (h : x = 0) : ¬ x < 0 := by rw [h]; decide
def t3 (G : GL) (i j z l : Nat) : Int64 := aP (if l = 0 then vT G i j z else if l = 1 then vT G j z i else vT G z i j) (vTT G i j z)
theorem t3_eq (G : GL) (i j z : Nat) {l : Nat} (h : l < 3) : labs (fq ((10000 : Int32).toInt64 * (if nI l = 0 then vT G i j z else if nI l = 1 then vT G j z i else vT G z i j)) (vTT G i j z)) = t3 G i j z l := by
  have : l = 0 ∨ l = 1 ∨ l = 2 := by omega
  rcases this with rfl | rfl | rfl <;> rfl
theorem labs_i {x : Int64} (h : x.toInt ≠ -2 ^ 63) : (labs x).toInt = if 0 < x.toInt then x.toInt else -x.toInt := by
  unfold labs
  by_cases q : 0 < x
  · have q2 := Int64.lt_iff_toInt_lt.mp q
    rw [Int64.toInt_zero] at q2
    rw [if_pos q, if_pos q2]
  · have q2 : ¬ 0 < x.toInt := fun w => q (Int64.lt_iff_toInt_lt.mpr (by rw [Int64.toInt_zero]; exact w))
    rw [if_neg q, if_neg q2, z64_neg h]
theorem vX_i {G : GL} {n i j : Nat} (hG : gOK G n) (hi : i < n) (hj : j < n) : (vX G i j).toInt = (vB G i).toInt * (vD G j).toInt - (vB G j).toInt * (vD G i).toInt ∧ -99980001 ≤ (vX G i j).toInt ∧ (vX G i j).toInt ≤ 99980001 := by
  have b1 := vB_i hG hi
  have b2 := vB_i hG hj
  have d1 := vD_i hG hi
  have d2 := vD_i hG hj
  have m1 := mul_b (show 0 ≤ (vB G i).toInt by omega) b1.2.2 (show 0 ≤ (vD G j).toInt by omega) d2.2.2
  have m2 := mul_b (show 0 ≤ (vB G j).toInt by omega) b2.2.2 (show 0 ≤ (vD G i).toInt by omega) d1.2.2
  have e1 : (vB G i * vD G j).toInt = (vB G i).toInt * (vD G j).toInt := z64_mul (by omega) (by omega)
  have e2 : (vB G j * vD G i).toInt = (vB G j).toInt * (vD G i).toInt := z64_mul (by omega) (by omega)
  have e : (vX G i j).toInt = (vB G i).toInt * (vD G j).toInt - (vB G j).toInt * (vD G i).toInt := by
    unfold vX
    rw [z64_sub (by omega) (by omega), e1, e2]
  omega
theorem vT_i {G : GL} {n i j k : Nat} (hG : gOK G n) (hi : i < n) (hj : j < n) (hk : k < n) : -12997300149999 ≤ (vT G i j k).toInt ∧ (vT G i j k).toInt ≤ 12997300149999 := by
  have a1 := vA_i hG hi
  have x1 := vX_i hG hj hk
  have m1 := mul_s (a := 129999) (show -129999 ≤ (vA G i).toInt by omega) a1.2.2 x1.2.1 x1.2.2
  unfold vT
  rw [z64_mul (by omega) (by omega)]
  omega
/-- floor division by anything stays within the dividend -/
theorem fq_any {a b : Int64} {k : Int} (h1 : -k ≤ a.toInt) (h2 : a.toInt ≤ k) (h3 : k < 2 ^ 62) : -k - 1 ≤ (fq a b).toInt ∧ (fq a b).toInt ≤ k + 1 := by
  by_cases hb : b = 0
  · rw [fq, if_pos hb, Int64.toInt_zero]; omega
  · have hd : (a / b).toInt = a.toInt.tdiv b.toInt := z64_div (by omega)
    have hl : (a.toInt.tdiv b.toInt).natAbs ≤ a.toInt.natAbs := by
      rw [Int.natAbs_tdiv]
      exact Nat.div_le_self _ _
    rw [fq, if_neg hb, fdiv]
    split
    · rw [z64_sub] <;> rw [hd, show (1 : Int64).toInt = 1 from by decide] <;> omega
    · rw [hd]; omega
theorem aP_b {a b : Int64} {k : Int} (h1 : -k ≤ a.toInt) (h2 : a.toInt ≤ k) (h3 : k < 2 ^ 46) : 0 ≤ (aP a b).toInt ∧ (aP a b).toInt < 2 ^ 62 := by
  have e : (10000 * a).toInt = 10000 * a.toInt := by
    rw [z64_mul] <;> rw [show (10000 : Int64).toInt = 10000 from by decide] <;> omega
  have f := fq_any (a := 10000 * a) (b := b) (k := 10000 * k) (by omega) (by omega) (by omega)
  unfold aP
  rw [labs_i (by omega)]
  split <;> omega
theorem lmax_i (x y : Int64) : (lmax x y).toInt = if y.toInt < x.toInt then x.toInt else y.toInt := by
  unfold lmax
  by_cases q : y < x
  · rw [if_pos q, if_pos (Int64.lt_iff_toInt_lt.mp q)]
  · rw [if_neg q, if_neg (fun w => q (Int64.lt_iff_toInt_lt.mpr w))]
theorem fr3 {σ : Type} (f : Nat → σ → σ) (z : σ) : fr 0 f z 3 = f 2 (f 1 (f 0 z)) := rfl
theorem max3 (x y w : Int64) (h : 0 ≤ x.toInt) : (if (if (if (0 : Int64) < x then x else 0) < y then y else (if (0 : Int64) < x then x else 0)) < w then w else (if (if (0 : Int64) < x then x else 0) < y then y else (if (0 : Int64) < x then x else 0))) = lmax x (lmax y w) := by
  apply Int64.toInt_inj.mp
  unfold lmax
  simp only [apply_ite Int64.toInt, Int64.lt_iff_toInt_lt, Int64.toInt_zero]
  generalize x.toInt = a at *
  generalize y.toInt = b at *
  generalize w.toInt = d at *
  repeat' split
  all_goals omega
theorem str_eq {G : GL} {n i j z : Nat} (hG : gOK G n) (hi : i < n) (hj : j < n) (hz : z < n) (hT : ¬ vTT G i j z = 0) : fr 0 (fun l m => if m < t3 G i j z l then t3 G i j z l else m) 0 3 = gTri G i j z := by
  have b0 := vT_i hG hi hj hz
  have a0 := aP_b (b := vTT G i j z) b0.1 b0.2 (by omega)
  have h0 : t3 G i j z 0 = aP (vT G i j z) (vTT G i j z) := by rw [t3, if_pos rfl]
  have h1 : t3 G i j z 1 = aP (vT G j z i) (vTT G i j z) := by rw [t3, if_neg (by decide), if_pos rfl]
  have h2 : t3 G i j z 2 = aP (vT G z i j) (vTT G i j z) := by rw [t3, if_neg (by decide), if_neg (by decide)]
  rw [gTri, if_neg hT, fr3, h0, h1, h2]
  exact max3 _ _ _ a0.1
theorem gTri_0 {G : GL} {i j k : Nat} (h : vTT G i j k = 0) : gTri G i j k = -1 := if_pos h
theorem pick_neg (b : Int64 × Int64) (cd : Int64) : pick b cd (-1) = b := if_neg (fun w => absurd w.1 (by decide))
theorem l_ring4 (u o g v : Int64) : u - o + g - v = u - v + (g - o) := by
  simp only [Int64.sub_eq_add_neg]
  rw [Int64.add_assoc u, Int64.add_assoc u, Int64.add_assoc u]
  congr 1
  rw [Int64.add_comm (-o) g, Int64.add_comm (g + -o) (-v)]
theorem miss_eq (G : GL) (lg lp : Nat → Int32) (k j g : Nat) (w : Nat → Int64) : fr 0 (fun l z => z + labs (vP G lg lp (nI l) k - vL G lg lp j (ix (lg j)) (nI l) + vL G lg lp j g (nI l) - w l)) 0 3 = vM G lg lp (vP G lg lp 0 k - w 0) (vP G lg lp 1 k - w 1) (vP G lg lp 2 k - w 2) j g := by
  show 0 + labs (vP G lg lp 0 k - vL G lg lp j (ix (lg j)) 0 + vL G lg lp j g 0 - w 0) + labs (vP G lg lp 1 k - vL G lg lp j (ix (lg j)) 1 + vL G lg lp j g 1 - w 1) + labs (vP G lg lp 2 k - vL G lg lp j (ix (lg j)) 2 + vL G lg lp j g 2 - w 2) = _
  rw [l_ring4, l_ring4, l_ring4, Int64.zero_add]
  rfl
