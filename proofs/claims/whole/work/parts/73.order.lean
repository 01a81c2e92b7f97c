/-! holes: out of kit/laws/COUNTS.to-paste -/
theorem fb_holes : ∀ (m n : Nat) (f : Nat → Nat), (∀ i, i < n → f i < m) → (∀ i j, i < j → j < n → f i ≠ f j) → n ≤ m := by
  intro m
  induction m with
  | zero =>
    intro n f h1 _
    rcases Nat.eq_zero_or_pos n with h | h
    · omega
    · exact absurd (h1 0 h) (Nat.not_lt_zero _)
  | succ m ih =>
    intro n f h1 h2
    by_cases hx : ∃ i, i < n ∧ f i = m
    · obtain ⟨a, ha, hfa⟩ := hx
      have hg := ih (n - 1) (fun i => if i < a then f i else f (i + 1)) (by
        intro i hi
        by_cases q : i < a
        · simp only [if_pos q]
          have b1 := h1 i (by omega)
          have b2 := h2 i a q ha
          omega
        · simp only [if_neg q]
          have b1 := h1 (i + 1) (by omega)
          have b2 := h2 a (i + 1) (by omega) (by omega)
          omega) (by
        intro i j hij hj
        by_cases q : i < a
        · by_cases r : j < a
          · simp only [if_pos q, if_pos r]
            exact h2 i j hij (by omega)
          · simp only [if_pos q, if_neg r]
            exact h2 i (j + 1) (by omega) (by omega)
        · have r : ¬ j < a := by omega
          simp only [if_neg q, if_neg r]
          exact h2 (i + 1) (j + 1) (by omega) (by omega))
      omega
    · have hg := ih n f (fun i hi => by
        have b1 := h1 i hi
        have b2 : f i ≠ m := fun e => hx ⟨i, hi, e⟩
        omega) h2
      omega

theorem fb_onto {n : Nat} {f : Nat → Nat} (h : ∀ i, i < n → f i < n) (h2 : ∀ i j, i < j → j < n → f i ≠ f j) {y : Nat} (hy : y < n) : ∃ i, i < n ∧ f i = y := by
  refine Classical.byContradiction fun hx => ?_
  have hne : ∀ i, i < n → f i ≠ y := fun i hi e => hx ⟨i, hi, e⟩
  have := fb_holes (n - 1) n (fun i => if f i < y then f i else f i - 1) (by
    intro i hi
    have b1 := h i hi
    have b2 := hne i hi
    by_cases q : f i < y
    · simp only [if_pos q]; omega
    · simp only [if_neg q]; omega) (by
    intro i j hij hj
    have b1 := hne i (by omega)
    have b2 := hne j hj
    have b3 := h2 i j hij hj
    by_cases q : f i < y
    · by_cases r : f j < y
      · simp only [if_pos q, if_pos r]; exact b3
      · simp only [if_pos q, if_neg r]; omega
    · by_cases r : f j < y
      · simp only [if_neg q, if_pos r]; omega
      · simp only [if_neg q, if_neg r]; omega)
  omega
/-! the order of the doublets: l stands for the doublet (l / 20, l % 20) -/
theorem vE_i {G : GL} {n i j : Nat} (hG : gOK G n) (hi : i < n) (hj : j < n) : (vE G i j).toInt = (vA G i).toInt * (vB G j).toInt - (vA G j).toInt * (vB G i).toInt ∧ -1299860001 ≤ (vE G i j).toInt ∧ (vE G i j).toInt ≤ 1299860001 := by
  have a1 := vA_i hG hi
  have a2 := vA_i hG hj
  have b1 := vB_i hG hi
  have b2 := vB_i hG hj
  have m1 := mul_b (show 0 ≤ (vA G i).toInt by omega) a1.2.2 (show 0 ≤ (vB G j).toInt by omega) b2.2.2
  have m2 := mul_b (show 0 ≤ (vA G j).toInt by omega) a2.2.2 (show 0 ≤ (vB G i).toInt by omega) b1.2.2
  have e1 : (vA G i * vB G j).toInt = (vA G i).toInt * (vB G j).toInt := z64_mul (by omega) (by omega)
  have e2 : (vA G j * vB G i).toInt = (vA G j).toInt * (vB G i).toInt := z64_mul (by omega) (by omega)
  have e : (vE G i j).toInt = (vA G i).toInt * (vB G j).toInt - (vA G j).toInt * (vB G i).toInt := by
    unfold vE
    rw [z64_sub (by omega) (by omega), e1, e2]
  omega
theorem vStr_i {G : GL} {n i j : Nat} (hG : gOK G n) (hi : i < n) (hj : j < n) : 0 ≤ (vStr G i j).toInt ∧ (vStr G i j).toInt ≤ 2599720002 := by
  have a1 := vA_i hG hi
  have a2 := vA_i hG hj
  have b1 := vB_i hG hi
  have b2 := vB_i hG hj
  have m1 := mul_b (show 0 ≤ (vA G i).toInt by omega) a1.2.2 (show 0 ≤ (vB G j).toInt by omega) b2.2.2
  have m2 := mul_b (show 0 ≤ (vA G j).toInt by omega) a2.2.2 (show 0 ≤ (vB G i).toInt by omega) b1.2.2
  have e1 : (vA G i * vB G j).toInt = (vA G i).toInt * (vB G j).toInt := z64_mul (by omega) (by omega)
  have e2 : (vA G j * vB G i).toInt = (vA G j).toInt * (vB G i).toInt := z64_mul (by omega) (by omega)
  unfold vStr
  rw [z64_add (by omega) (by omega), e1, e2]
  omega
def isD (G : GL) (n l : Nat) : Prop := l / 20 < n ∧ l % 20 < n ∧ 0 < vE G (l / 20) (l % 20)
def eZ (G : GL) (l : Nat) : Int := (vE G (l / 20) (l % 20)).toInt
def pZ (G : GL) (l : Nat) : Int := (labs (vX G (l % 20) (l / 20))).toInt
def sZ (G : GL) (l : Nat) : Int := (vStr G (l / 20) (l % 20)).toInt
theorem z_b {G : GL} {n l : Nat} (hG : gOK G n) (h : isD G n l) : 1 ≤ eZ G l ∧ eZ G l ≤ 1299860001 ∧ 0 ≤ pZ G l ∧ pZ G l ≤ 99980001 ∧ 0 ≤ sZ G l ∧ sZ G l ≤ 2599720002 := by
  have e := vE_i hG h.1 h.2.1
  have x := vX_i hG h.2.1 h.1
  have t := vStr_i hG h.1 h.2.1
  have p := Int64.lt_iff_toInt_lt.mp h.2.2
  rw [Int64.toInt_zero] at p
  have q : pZ G l = if 0 < (vX G (l % 20) (l / 20)).toInt then (vX G (l % 20) (l / 20)).toInt else -(vX G (l % 20) (l / 20)).toInt := labs_i (by omega)
  refine ⟨p, e.2.2, ?_, ?_, t.1, t.2⟩
  · rw [q]; split <;> omega
  · rw [q]; split <;> omega
def oU (G : GL) (bs : Int32) (l : Nat) : Int := if bs = 0 then pZ G l else sZ G l
def oV (G : GL) (bs : Int32) (l : Nat) : Int := if bs = 0 then sZ G l else pZ G l
def LT (G : GL) (bs : Int32) (a b : Nat) : Prop := oU G bs a * eZ G b < oU G bs b * eZ G a ∨ (oU G bs a * eZ G b = oU G bs b * eZ G a ∧ oV G bs a * eZ G b < oV G bs b * eZ G a)
def BF (G : GL) (bs : Int32) (a b : Nat) : Prop := LT G bs a b ∨ (¬ LT G bs b a ∧ a < b)
/-- a/b ≤ c/d ≤ e/f -/
theorem frc {a b c d e f : Int} (hb : 0 < b) (hd : 0 < d) (hf : 0 < f) (h1 : a * d ≤ c * b) (h2 : c * f ≤ e * d) : a * f ≤ e * b ∧ (a * f = e * b → a * d = c * b ∧ c * f = e * d) := by
  have g1 : a * d * f ≤ c * b * f := Int.mul_le_mul_of_nonneg_right h1 (Int.le_of_lt hf)
  have g2 : c * f * b ≤ e * d * b := Int.mul_le_mul_of_nonneg_right h2 (Int.le_of_lt hb)
  have e1 : a * d * f = a * f * d := by rw [Int.mul_assoc, Int.mul_comm d f, ← Int.mul_assoc]
  have e2 : c * b * f = c * f * b := by rw [Int.mul_assoc, Int.mul_comm b f, ← Int.mul_assoc]
  have e3 : e * d * b = e * b * d := by rw [Int.mul_assoc, Int.mul_comm d b, ← Int.mul_assoc]
  have g : a * f * d ≤ e * b * d := by omega
  refine ⟨Int.le_of_mul_le_mul_right g hd, fun q => ?_⟩
  have q2 : a * f * d = e * b * d := by rw [q]
  have k1 : a * d * f = c * b * f := by omega
  have k2 : c * f * b = e * d * b := by omega
  exact ⟨Int.eq_of_mul_eq_mul_right (by omega) k1, Int.eq_of_mul_eq_mul_right (by omega) k2⟩
theorem LT_irr (G : GL) (bs : Int32) (a : Nat) : ¬ LT G bs a a := by unfold LT; omega
theorem LT_as {G : GL} {bs : Int32} {a b : Nat} (h : LT G bs a b) : ¬ LT G bs b a := by unfold LT at *; omega
theorem LT_nt {G : GL} {bs : Int32} {a b c : Nat} (ha : 1 ≤ eZ G a) (hb : 1 ≤ eZ G b) (hc : 1 ≤ eZ G c) (h : LT G bs a b) (h2 : ¬ LT G bs c b) : LT G bs a c := by
  unfold LT at *
  have u := frc (a := oU G bs a) (b := eZ G a) (c := oU G bs b) (d := eZ G b) (e := oU G bs c) (f := eZ G c) (by omega) (by omega) (by omega) (by omega) (by omega)
  rcases (show oU G bs a * eZ G c < oU G bs c * eZ G a ∨ oU G bs a * eZ G c = oU G bs c * eZ G a by omega) with q | q
  · exact Or.inl q
  · have w := u.2 q
    have v := frc (a := oV G bs a) (b := eZ G a) (c := oV G bs b) (d := eZ G b) (e := oV G bs c) (f := eZ G c) (by omega) (by omega) (by omega) (by omega) (by omega)
    refine Or.inr ⟨q, ?_⟩
    rcases (show oV G bs a * eZ G c < oV G bs c * eZ G a ∨ oV G bs a * eZ G c = oV G bs c * eZ G a by omega) with r | r
    · exact r
    · have := v.2 r
      omega
theorem BF_irr (G : GL) (bs : Int32) (a : Nat) : ¬ BF G bs a a := fun h => h.elim (LT_irr G bs a) (fun h => Nat.lt_irrefl _ h.2)
theorem BF_as {G : GL} {bs : Int32} {a b : Nat} (h : BF G bs a b) : ¬ BF G bs b a := by
  rcases h with h | ⟨h, q⟩
  · rintro (g | ⟨g, r⟩)
    · exact LT_as h g
    · exact g h
  · rintro (g | ⟨g, r⟩)
    · exact h g
    · omega
theorem BF_tot (G : GL) (bs : Int32) {a b : Nat} (h : a ≠ b) : BF G bs a b ∨ BF G bs b a := by
  by_cases q : LT G bs a b
  · exact Or.inl (Or.inl q)
  · by_cases r : LT G bs b a
    · exact Or.inr (Or.inl r)
    · rcases Nat.lt_or_gt_of_ne h with z | z
      · exact Or.inl (Or.inr ⟨r, z⟩)
      · exact Or.inr (Or.inr ⟨q, z⟩)
theorem BF_tr {G : GL} {bs : Int32} {a b c : Nat} (ha : 1 ≤ eZ G a) (hb : 1 ≤ eZ G b) (hc : 1 ≤ eZ G c) (h : BF G bs a b) (h2 : BF G bs b c) : BF G bs a c := by
  rcases h with h | ⟨h, q⟩
  · rcases h2 with g | ⟨g, r⟩
    · exact Or.inl (LT_nt ha hb hc h (LT_as g))
    · exact Or.inl (LT_nt ha hb hc h g)
  · rcases h2 with g | ⟨g, r⟩
    · refine Or.inl (Classical.byContradiction fun z => h ?_)
      exact LT_nt hb hc ha g z
    · refine Or.inr ⟨fun z => g ?_, by omega⟩
      exact LT_nt hc ha hb z h
theorem bf_mul {G : GL} {n a b : Nat} (hG : gOK G n) (ha : isD G n a) (hb : isD G n b) : (labs (vX G (a % 20) (a / 20)) * vE G (b / 20) (b % 20)).toInt = pZ G a * eZ G b ∧ (vStr G (a / 20) (a % 20) * vE G (b / 20) (b % 20)).toInt = sZ G a * eZ G b ∧ 0 ≤ pZ G a * eZ G b ∧ pZ G a * eZ G b ≤ 4 * 10 ^ 18 ∧ 0 ≤ sZ G a * eZ G b ∧ sZ G a * eZ G b ≤ 4 * 10 ^ 18 := by
  have z1 := z_b hG ha
  have z2 := z_b hG hb
  have m1 := mul_b z1.2.2.1 z1.2.2.2.1 (show 0 ≤ eZ G b by omega) z2.2.1
  have m2 := mul_b z1.2.2.2.2.1 z1.2.2.2.2.2 (show 0 ≤ eZ G b by omega) z2.2.1
  refine ⟨?_, ?_, m1.1, by omega, m2.1, by omega⟩
  · exact z64_mul (show -2 ^ 63 ≤ pZ G a * eZ G b by omega) (show pZ G a * eZ G b < 2 ^ 63 by omega)
  · exact z64_mul (show -2 ^ 63 ≤ sZ G a * eZ G b by omega) (show sZ G a * eZ G b < 2 ^ 63 by omega)
theorem i_lt0 {x : Int64} : x < 0 ↔ x.toInt < 0 := by rw [Int64.lt_iff_toInt_lt, Int64.toInt_zero]
theorem i_eq0 {x : Int64} : x = 0 ↔ x.toInt = 0 := by rw [← Int64.toInt_inj, Int64.toInt_zero]
/-- the reference's isBefore is BF -/
theorem befM_iff {G : GL} {n a b : Nat} (bs : Int32) (hG : gOK G n) (ha : isD G n a) (hb : isD G n b) : befM G bs (a / 20) (a % 20) (b / 20) (b % 20) ↔ BF G bs a b := by
  have m1 := bf_mul hG ha hb
  have m2 := bf_mul hG hb ha
  have e1 : (cSp G (a / 20) (a % 20) (b / 20) (b % 20)).toInt = pZ G a * eZ G b - pZ G b * eZ G a := by
    unfold cSp
    rw [z64_sub] <;> rw [m1.1, m2.1] <;> omega
  have e2 : (cSt G (a / 20) (a % 20) (b / 20) (b % 20)).toInt = sZ G a * eZ G b - sZ G b * eZ G a := by
    unfold cSt
    rw [z64_sub] <;> rw [m1.2.1, m2.2.1] <;> omega
  have lx : (a / 20 < b / 20 ∨ (a / 20 = b / 20 ∧ a % 20 < b % 20)) ↔ a < b := by omega
  show bf3 _ _ _ _ _ _ ↔ _
  unfold BF LT oU oV bf3
  rw [lx]
  by_cases h : bs = 0
  · simp only [if_pos h, i_lt0, i_eq0, e1, e2]
    omega
  · simp only [if_neg h, i_lt0, i_eq0, e1, e2]
    omega
theorem lcm_lt {x y : Int64} : lcm x y < 0 ↔ x.toInt < y.toInt := by
  unfold lcm
  rw [← Int64.lt_iff_toInt_lt]
  by_cases h : x < y
  · rw [if_pos h]; exact ⟨fun _ => h, fun _ => by decide⟩
  · rw [if_neg h]
    by_cases q : x = y
    · rw [if_pos q]; exact ⟨fun z => absurd z (by decide), fun z => absurd z h⟩
    · rw [if_neg q]; exact ⟨fun z => absurd z (by decide), fun z => absurd z h⟩
theorem lcm_eq {x y : Int64} : lcm x y = 0 ↔ x.toInt = y.toInt := by
  unfold lcm
  rw [Int64.toInt_inj]
  by_cases h : x < y
  · rw [if_pos h]
    exact ⟨fun z => absurd z (by decide), fun z => by subst z; exact absurd h Int64.lt_irrefl⟩
  · rw [if_neg h]
    by_cases q : x = y
    · rw [if_pos q]; exact ⟨fun _ => q, fun _ => rfl⟩
    · rw [if_neg q]; exact ⟨fun z => absurd z (by decide), fun z => absurd z q⟩
/-- what the slots hold: slot t the doublet e t -/
def slots (G : GL) (n m : Nat) (e : Nat → Nat) (dd ds dt : Nat → Int64) : Prop := ∀ t, t < m → isD G n (e t) ∧ dd t = vE G (e t / 20) (e t % 20) ∧ ds t = labs (vX G (e t % 20) (e t / 20)) ∧ dt t = vStr G (e t / 20) (e t % 20)
theorem cmp_iff {G : GL} {n m a b : Nat} {e : Nat → Nat} {dd ds dt : Nat → Int64} (bs : Int32) (hG : gOK G n) (hs : slots G n m e dd ds dt) (ha : a < m) (hb : b < m) : cmpS dd ds dt bs a b < 0 ↔ LT G bs (e a) (e b) := by
  obtain ⟨d1, u1, v1, w1⟩ := hs a ha
  obtain ⟨d2, u2, v2, w2⟩ := hs b hb
  have m1 := bf_mul hG d1 d2
  have m2 := bf_mul hG d2 d1
  unfold cmpS LT oU oV
  rw [u1, u2, v1, v2, w1, w2]
  by_cases h : bs = 0
  · simp only [if_pos h]
    by_cases q : lcm (labs (vX G (e a % 20) (e a / 20)) * vE G (e b / 20) (e b % 20)) (labs (vX G (e b % 20) (e b / 20)) * vE G (e a / 20) (e a % 20)) = 0
    · rw [if_pos q, lcm_lt, m1.2.1, m2.2.1]
      have := lcm_eq.mp q
      rw [m1.1, m2.1] at this
      omega
    · rw [if_neg q, lcm_lt, m1.1, m2.1]
      have : ¬ pZ G (e a) * eZ G (e b) = pZ G (e b) * eZ G (e a) := fun z => q (lcm_eq.mpr (by rw [m1.1, m2.1]; exact z))
      omega
  · simp only [if_neg h]
    by_cases q : lcm (vStr G (e a / 20) (e a % 20) * vE G (e b / 20) (e b % 20)) (vStr G (e b / 20) (e b % 20) * vE G (e a / 20) (e a % 20)) = 0
    · rw [if_pos q, lcm_lt, m1.1, m2.1]
      have := lcm_eq.mp q
      rw [m1.2.1, m2.2.1] at this
      omega
    · rw [if_neg q, lcm_lt, m1.2.1, m2.2.1]
      have : ¬ sZ G (e a) * eZ G (e b) = sZ G (e b) * eZ G (e a) := fun z => q (lcm_eq.mpr (by rw [m1.2.1, m2.2.1]; exact z))
      omega
