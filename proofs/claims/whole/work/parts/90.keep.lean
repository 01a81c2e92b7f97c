/-! what each writer keeps of the state -/
theorem isGl_i {f d k : Int32} (h : isGl f d k) : 130000 ≤ k.toInt ∧ k.toInt < d.toInt ∧ d.toInt < f.toInt ∧ f.toInt ≤ 230000 ∧ f.toInt - k.toInt ≤ 9999 := by
  obtain ⟨h1, h2, h3, h4, h5⟩ := h
  have a1 : (130000 : Int) ≤ k.toInt := Int32.le_iff_toInt_le.mp h1
  have a2 := Int32.lt_iff_toInt_lt.mp h2
  have a3 := Int32.lt_iff_toInt_lt.mp h3
  have a4 : f.toInt ≤ (230000 : Int) := Int32.le_iff_toInt_le.mp h4
  have a5 : (f - k).toInt ≤ (9999 : Int) := Int32.le_iff_toInt_le.mp h5
  rw [z32_sub (by omega) (by omega)] at a5
  exact ⟨a1, a2, a3, a4, a5⟩
theorem gOK_add {G : GL} {n : Nat} {y : Int64} {f d k : Int32} (hG : gOK G n) (h : isGl f d k) : gOK (addG G n y f d k) (n + 1) := by
  intro g hg
  show 130000 ≤ (upd (gC G) n k g).toInt ∧ (upd (gC G) n k g).toInt < (upd (gD G) n d g).toInt ∧ (upd (gD G) n d g).toInt < (upd (gF G) n f g).toInt ∧ (upd (gF G) n f g).toInt ≤ 230000 ∧ (upd (gF G) n f g).toInt - (upd (gC G) n k g).toInt ≤ 9999
  by_cases q : g = n
  · subst q; rw [pk_us, pk_us, pk_us]; exact isGl_i h
  · rw [pk_un q, pk_un q, pk_un q]; exact hG g (by omega)
theorem shf_ex {α : Type} (f : Nat → α) (g k j : Nat) : shf f g k j = f (if g ≤ j ∧ j + 1 < k then j + 1 else j) := by
  unfold shf
  by_cases q : g ≤ j ∧ j + 1 < k
  · rw [if_pos q, if_pos q]
  · rw [if_neg q, if_neg q]
theorem shf_lt {g k j : Nat} (h : j < k - 1) : (if g ≤ j ∧ j + 1 < k then j + 1 else j) < k := by
  by_cases q : g ≤ j ∧ j + 1 < k
  · rw [if_pos q]; omega
  · rw [if_neg q]; omega
theorem gOK_rm {G : GL} {g n : Nat} (hG : gOK G n) : gOK (rmG G g n) (n - 1) := by
  intro j hj
  show 130000 ≤ (shf (gC G) g n j).toInt ∧ (shf (gC G) g n j).toInt < (shf (gD G) g n j).toInt ∧ (shf (gD G) g n j).toInt < (shf (gF G) g n j).toInt ∧ (shf (gF G) g n j).toInt ≤ 230000 ∧ (shf (gF G) g n j).toInt - (shf (gC G) g n j).toInt ≤ 9999
  rw [shf_ex (gC G), shf_ex (gD G), shf_ex (gF G)]
  exact hG _ (shf_lt hj)
theorem lOK_of {f : Nat → Int32} {j n v : Nat} (hn : n ≤ 20) (h : f j = nI v) (hv : v < n) : f j = nI (ix (f j)) ∧ ix (f j) < n := by
  rw [h, ix_nI (by omega)]
  exact ⟨rfl, hv⟩
theorem lOK_rm {lg : Nat → Int32} {k n g : Nat} (hn : n ≤ 20) (hL : lOK lg k n) (hg : g < n) (hu : ¬ ∃ j, j < k ∧ lg j = nI g) : lOK (cg lg (nI g) k) k (n - 1) := by
  intro j hj
  obtain ⟨v, hv, ev⟩ : ∃ v, v < n ∧ lg j = nI v := ⟨ix (lg j), (hL j hj).2, (hL j hj).1⟩
  have hne : v ≠ g := fun q => hu ⟨j, hj, by rw [ev, q]⟩
  by_cases q : g < v
  · have e : cg lg (nI g) k j = nI (v - 1) := by
      unfold cg
      rw [ev, if_pos ⟨hj, (nI_ltI (by omega) (by omega)).mpr q⟩]
      exact pk_sub (b := 1) (by omega)
    exact lOK_of (by omega) e (by omega)
  · have e : cg lg (nI g) k j = nI v := by
      unfold cg
      rw [ev, if_neg (fun w => q ((nI_ltI (by omega) (by omega)).mp w.2))]
    exact lOK_of (by omega) e (by omega)
theorem lOK_add {lg : Nat → Int32} {k n : Nat} {x : Int32} (hn : n ≤ 20) (hL : lOK lg k n) (hx : hasP x n) : lOK (upd lg k x) (k + 1) n := by
  intro j hj
  obtain ⟨v, hv, ev⟩ := hasP_ex (by omega) hx
  by_cases q : j = k
  · exact lOK_of hn (show upd lg k x j = nI v by rw [q, pk_us, ev]) hv
  · exact lOK_of hn (show upd lg k x j = nI (ix (lg j)) by rw [pk_un q]; exact (hL j (by omega)).1) (hL j (by omega)).2
theorem lOK_sh {lg : Nat → Int32} {k n g : Nat} (hn : n ≤ 20) (hL : lOK lg k n) : lOK (shf lg g k) (k - 1) n := by
  intro j hj
  have h := hL _ (shf_lt (g := g) hj)
  exact lOK_of hn (show shf lg g k j = nI (ix (lg (if g ≤ j ∧ j + 1 < k then j + 1 else j))) by rw [shf_ex]; exact h.1) h.2
theorem pOK_add {lp : Nat → Int32} {k : Nat} {y : Int32} (hp : pOK lp k) (hy : -10000000 ≤ y ∧ y ≤ 10000000) : pOK (upd lp k y) (k + 1) := by
  intro j hj
  by_cases q : j = k
  · subst q
    rw [pk_us]
    exact ⟨Int32.le_iff_toInt_le.mp hy.1, Int32.le_iff_toInt_le.mp hy.2⟩
  · rw [pk_un q]; exact hp j (by omega)
theorem pOK_sh {lp : Nat → Int32} {k g : Nat} (hp : pOK lp k) : pOK (shf lp g k) (k - 1) := by
  intro j hj
  rw [shf_ex]
  exact hp _ (shf_lt hj)
theorem rOK_add {rd : Nat → Int32} {np : Nat} {x : Int32} (hR : rOK rd np) (hx : 1000 ≤ x ∧ x ≤ 1000000) (hu : ¬ ∃ g, g < np ∧ rd g = x) : rOK (upd rd np x) (np + 1) := by
  constructor
  · intro f hf
    by_cases q : f = np
    · subst q
      rw [pk_us]
      exact ⟨Int32.le_iff_toInt_le.mp hx.1, Int32.le_iff_toInt_le.mp hx.2⟩
    · rw [pk_un q]; exact hR.1 f (by omega)
  · intro f g hf hg h
    by_cases q : f = np
    · by_cases r : g = np
      · omega
      · rw [q, pk_us, pk_un r] at h
        exact absurd ⟨g, by omega, h.symm⟩ hu
    · by_cases r : g = np
      · rw [r, pk_us, pk_un q] at h
        exact absurd ⟨f, by omega, h⟩ hu
      · rw [pk_un q, pk_un r] at h
        exact hR.2 f g (by omega) (by omega) h
theorem kApp {bf : Nat → Int32} {ln : Nat} (x : Int32) (h : ln ≤ 28) : (sApp bf ln x).2.2 ≤ 28 := by
  unfold sApp
  by_cases a : 32 ≤ x ∧ x ≤ 126
  · rw [if_pos a]
    by_cases b : ln = 28
    · rw [if_pos b]; exact h
    · rw [if_neg b]; show ln + 1 ≤ 28; omega
  · rw [if_neg a]; exact h
theorem kAdG {bf : Nat → Int32} {ln : Nat} {G : GL} {n : Nat} {lg : Nat → Int32} {k : Nat} (h : ln ≤ 28) (hn : n ≤ 20) (hG : gOK G n) (hL : lOK lg k n) : (sAdG bf ln G n).2.1 ≤ 28 ∧ (sAdG bf ln G n).2.2.2 ≤ 20 ∧ gOK (sAdG bf ln G n).2.2.1 (sAdG bf ln G n).2.2.2 ∧ lOK lg k (sAdG bf ln G n).2.2.2 := by
  unfold sAdG
  by_cases a : isWh bf ln
  · rw [if_pos a]
    by_cases b : isGl (numA bf ln 0) (numA bf ln 1) (numA bf ln 2)
    · rw [if_pos b]
      by_cases d : n = 20
      · rw [if_pos d]; exact ⟨h, hn, hG, hL⟩
      · rw [if_neg d]
        by_cases e : ∃ g, g < n ∧ gK G g = keyA bf ln
        · rw [if_pos e]; exact ⟨h, hn, hG, hL⟩
        · rw [if_neg e]
          exact ⟨Nat.zero_le _, by show n + 1 ≤ 20; omega, gOK_add hG b, fun j hj => ⟨(hL j hj).1, Nat.lt_succ_of_lt (hL j hj).2⟩⟩
    · rw [if_neg b]; exact ⟨h, hn, hG, hL⟩
  · rw [if_neg a]; exact ⟨h, hn, hG, hL⟩
theorem kRmG {G : GL} {n : Nat} {lg : Nat → Int32} {k : Nat} (x : Int32) (hn : n ≤ 20) (hG : gOK G n) (hL : lOK lg k n) : (sRmG G n lg k x).2.2.1 ≤ 20 ∧ gOK (sRmG G n lg k x).2.1 (sRmG G n lg k x).2.2.1 ∧ lOK (sRmG G n lg k x).2.2.2 k (sRmG G n lg k x).2.2.1 := by
  unfold sRmG
  by_cases a : hasP x n
  · rw [if_pos a]
    by_cases b : ∃ g, g < k ∧ lg g = x
    · rw [if_pos b]; exact ⟨hn, hG, hL⟩
    · rw [if_neg b]
      obtain ⟨g, hg, rfl⟩ := hasP_ex (by omega) a
      exact ⟨by show n - 1 ≤ 20; omega, gOK_rm hG, lOK_rm hn hL hg b⟩
  · rw [if_neg a]; exact ⟨hn, hG, hL⟩
theorem kAdL {n : Nat} {lg lp : Nat → Int32} {k : Nat} (x y : Int32) (hn : n ≤ 20) (hk : k ≤ 8) (hL : lOK lg k n) (hp : pOK lp k) : (sAdL n lg lp k x y).2.2.2 ≤ 8 ∧ lOK (sAdL n lg lp k x y).2.1 (sAdL n lg lp k x y).2.2.2 n ∧ pOK (sAdL n lg lp k x y).2.2.1 (sAdL n lg lp k x y).2.2.2 := by
  unfold sAdL
  by_cases a : hasP x n
  · rw [if_pos a]
    by_cases b : -10000000 ≤ y ∧ y ≤ 10000000
    · rw [if_pos b]
      by_cases d : k = 8
      · rw [if_pos d]; exact ⟨hk, hL, hp⟩
      · rw [if_neg d]; exact ⟨by show k + 1 ≤ 8; omega, lOK_add hn hL a, pOK_add hp b⟩
    · rw [if_neg b]; exact ⟨hk, hL, hp⟩
  · rw [if_neg a]; exact ⟨hk, hL, hp⟩
theorem kRmL {n : Nat} {lg lp : Nat → Int32} {k : Nat} (x : Int32) (hn : n ≤ 20) (hk : k ≤ 8) (hL : lOK lg k n) (hp : pOK lp k) : (sRmL lg lp k x).2.2.2 ≤ 8 ∧ lOK (sRmL lg lp k x).2.1 (sRmL lg lp k x).2.2.2 n ∧ pOK (sRmL lg lp k x).2.2.1 (sRmL lg lp k x).2.2.2 := by
  unfold sRmL
  by_cases a : hasP x k
  · rw [if_pos a]; exact ⟨by show k - 1 ≤ 8; omega, lOK_sh hn hL, pOK_sh hp⟩
  · rw [if_neg a]; exact ⟨hk, hL, hp⟩
theorem kAdP {rd : Nat → Int32} {np : Nat} (x : Int32) (h : np ≤ 16) (hR : rOK rd np) : (sAdP rd np x).2.2 ≤ 16 ∧ rOK (sAdP rd np x).2.1 (sAdP rd np x).2.2 := by
  unfold sAdP
  by_cases a : 1000 ≤ x ∧ x ≤ 1000000
  · rw [if_pos a]
    by_cases b : ∃ g, g < np ∧ rd g = x
    · rw [if_pos b]; exact ⟨h, hR⟩
    · rw [if_neg b]
      by_cases d : np = 16
      · rw [if_pos d]; exact ⟨h, hR⟩
      · rw [if_neg d]; exact ⟨by show np + 1 ≤ 16; omega, rOK_add hR a b⟩
  · rw [if_neg a]; exact ⟨h, hR⟩
