/-! the slots list the doublets; the ranking is their order -/
theorem fr_map {σ τ : Type} {lo : Nat} {f : Nat → σ → σ} {g : Nat → τ → τ} (w : σ → τ) (h : ∀ k z, w (f k z) = g k (w z)) (z : σ) : ∀ n, w (fr lo f z n) = fr lo g (w z) n
  | 0 => rfl
  | n + 1 => by
    rw [fr, fr]
    split
    · rfl
    · rw [h, fr_map w h z n]
def cnt2 (G : GL) (n i c : Nat) : Nat := fr 0 (fun j z => if 0 < vE G i j then z + 1 else z) c n
def cntD (G : GL) (n : Nat) : Nat := fr 0 (fun i z => cnt2 G n i z) 0 n
theorem col1_c (G : GL) (i j : Nat) (z : DS) : (col1 G i j z).1 = if 0 < vE G i j then z.1 + 1 else z.1 := by
  unfold col1
  split
  · rfl
  · rfl
theorem col2_c (G : GL) (n i : Nat) (z : DS) : (col2 G n i z).1 = cnt2 G n i z.1 := fr_map (fun z : DS => z.1) (fun k z => col1_c G i k z) z n
theorem col_c (G : GL) (n : Nat) (z : DS) (h : z.1 = 0) : (col G n z).1 = cntD G n := by
  have e := fr_map (lo := 0) (f := fun i z => col2 G n i z) (g := fun i z => cnt2 G n i z) (fun z : DS => z.1) (fun k z => col2_c G n k z) z n
  rw [h] at e
  exact e
def colI (G : GL) (n bd : Nat) (z : DS) (e : Nat → Nat) : Prop := slots G n z.1 e z.2.2.1 z.2.2.2.1 z.2.2.2.2 ∧ (∀ t, t < z.1 → e t < bd ∧ z.2.1 t = nI (100 * (e t / 20) + e t % 20)) ∧ (∀ t u, t < u → u < z.1 → e t < e u) ∧ ∀ l, l < bd → isD G n l → ∃ t, t < z.1 ∧ e t = l
theorem colI_step {G : GL} {n i j : Nat} {z : DS} {e : Nat → Nat} (hn : n ≤ 20) (hi : i < n) (hj : j < n) (h : colI G n (20 * i + j) z e) : ∃ e', colI G n (20 * i + j + 1) (col1 G i j z) e' := by
  obtain ⟨h1, h2, h3, h4⟩ := h
  have q1 : (20 * i + j) / 20 = i := by omega
  have q2 : (20 * i + j) % 20 = j := by omega
  by_cases p : 0 < vE G i j
  · have hz : col1 G i j z = kp G i j z := if_pos p
    rw [hz]
    refine ⟨fun t => if t = z.1 then 20 * i + j else e t, ?_, ?_, ?_, ?_⟩
    · intro t ht
      have ht : t < z.1 + 1 := ht
      by_cases q : t = z.1
      · subst q
        simp only [if_pos, kp, pk_uLs]
        rw [q1, q2]
        exact ⟨⟨by rw [q1]; exact hi, by rw [q2]; exact hj, by rw [q1, q2]; exact p⟩, rfl, rfl, rfl⟩
      · have := h1 t (by omega)
        simp only [if_neg q, kp, pk_uLn q]
        exact this
    · intro t ht
      have ht : t < z.1 + 1 := ht
      by_cases q : t = z.1
      · subst q
        simp only [if_pos, kp, pk_us]
        rw [q1, q2]
        exact ⟨by omega, rfl⟩
      · have := h2 t (by omega)
        simp only [if_neg q, kp, pk_un q]
        exact ⟨by omega, this.2⟩
    · intro t u htu hu
      have hu : u < z.1 + 1 := hu
      have qt : ¬ t = z.1 := by omega
      simp only [if_neg qt]
      by_cases q : u = z.1
      · simp only [if_pos q]
        exact (h2 t (by omega)).1
      · simp only [if_neg q]
        exact h3 t u htu (by omega)
    · intro l hl hd
      by_cases q : l = 20 * i + j
      · exact ⟨z.1, Nat.lt_succ_self _, by simp only [if_pos]; exact q.symm⟩
      · obtain ⟨t, g1, g2⟩ := h4 l (by omega) hd
        refine ⟨t, Nat.lt_succ_of_lt g1, ?_⟩
        have qt : ¬ t = z.1 := by omega
        simp only [if_neg qt]
        exact g2
  · have hz : col1 G i j z = z := if_neg p
    rw [hz]
    refine ⟨e, h1, fun t ht => ⟨by have := (h2 t ht).1; omega, (h2 t ht).2⟩, h3, fun l hl hd => ?_⟩
    by_cases q : l = 20 * i + j
    · subst q
      have := hd.2.2
      rw [q1, q2] at this
      exact absurd this p
    · exact h4 l (by omega) hd
theorem colI_in {G : GL} {n i : Nat} {z : DS} {e : Nat → Nat} (hn : n ≤ 20) (hi : i < n) (h : colI G n (20 * i) z e) : ∀ j, j ≤ n → ∃ e', colI G n (20 * i + j) (fr 0 (fun j z => col1 G i j z) z j) e'
  | 0, _ => ⟨e, h⟩
  | j + 1, hj => by
    obtain ⟨e1, h1⟩ := colI_in hn hi h j (by omega)
    rw [fr_s _ _ (Nat.zero_le j)]
    exact colI_step hn hi (by omega) h1
theorem colI_out {G : GL} {n : Nat} {z : DS} (hn : n ≤ 20) (hz : z.1 = 0) : ∀ i, i ≤ n → ∃ e', colI G n (20 * i) (fr 0 (fun i z => col2 G n i z) z i) e'
  | 0, _ => ⟨fun _ => 0, fun t ht => absurd ht (by show ¬ t < z.1; omega), fun t ht => absurd ht (by show ¬ t < z.1; omega), fun t u h1 h2 => absurd h2 (by show ¬ u < z.1; omega), fun l hl => absurd hl (by omega)⟩
  | i + 1, hi => by
    obtain ⟨e1, h1⟩ := colI_out hn hz i (by omega)
    obtain ⟨e2, g1, g2, g3, g4⟩ := colI_in hn (show i < n by omega) h1 n (Nat.le_refl n)
    rw [fr_s _ _ (Nat.zero_le i)]
    refine ⟨e2, g1, fun t ht => ⟨by have := (g2 t ht).1; omega, (g2 t ht).2⟩, g3, fun l hl hd => ?_⟩
    exact g4 l (by have := hd.1; have := hd.2.1; omega) hd
def tri : Nat → Nat
  | 0 => 0
  | k + 1 => tri k + k
theorem tri_mono {a : Nat} : ∀ {b : Nat}, a ≤ b → tri a ≤ tri b
  | 0, h => by rw [show a = 0 by omega]; exact Nat.le_refl _
  | b + 1, h => by
    by_cases q : a = b + 1
    · rw [q]; exact Nat.le_refl _
    · have := tri_mono (a := a) (b := b) (by omega)
      rw [tri]; omega
theorem tri_lt {a b c : Nat} (h : c < a) (h2 : a < b) : tri a + c < tri b := by
  have := tri_mono (a := a + 1) (b := b) (by omega)
  rw [tri] at this
  omega
theorem vE_anti {G : GL} {n i j : Nat} (hG : gOK G n) (hi : i < n) (hj : j < n) (h : 0 < vE G i j) : ¬ 0 < vE G j i := by
  intro h2
  have e1 := vE_i hG hi hj
  have e2 := vE_i hG hj hi
  have p1 := Int64.lt_iff_toInt_lt.mp h
  have p2 := Int64.lt_iff_toInt_lt.mp h2
  rw [Int64.toInt_zero] at p1 p2
  omega
def uT (l : Nat) : Nat := if l / 20 < l % 20 then tri (l % 20) + l / 20 else tri (l / 20) + l % 20
theorem uT_inj {G : GL} {n l k : Nat} (hG : gOK G n) (h1 : isD G n l) (h2 : isD G n k) (h : uT l = uT k) : l = k := by
  have d1 : l / 20 ≠ l % 20 := fun q => vE_irr q h1.2.2
  have d2 : k / 20 ≠ k % 20 := fun q => vE_irr q h2.2.2
  unfold uT at h
  have key : ∀ a b c d : Nat, b < a → d < c → tri a + b = tri c + d → a = c ∧ b = d := by
    intro a b c d x1 x2 x3
    rcases Nat.lt_trichotomy a c with q | q | q
    · have := tri_lt x1 q; omega
    · subst q; omega
    · have := tri_lt x2 q; omega
  by_cases q : l / 20 < l % 20 <;> by_cases r : k / 20 < k % 20
  · rw [if_pos q, if_pos r] at h
    have := key _ _ _ _ q r h; omega
  · rw [if_pos q, if_neg r] at h
    have w := key _ _ _ _ q (show k % 20 < k / 20 by omega) h
    have p1 := h1.2.2
    have p2 := h2.2.2
    rw [← w.1, ← w.2] at p2
    exact absurd p2 (vE_anti hG h1.1 h1.2.1 p1)
  · rw [if_neg q, if_pos r] at h
    have w := key _ _ _ _ (show l % 20 < l / 20 by omega) r h
    have p1 := h1.2.2
    have p2 := h2.2.2
    rw [← w.1, ← w.2] at p2
    exact absurd p2 (vE_anti hG h1.1 h1.2.1 p1)
  · rw [if_neg q, if_neg r] at h
    have := key _ _ _ _ (show l % 20 < l / 20 by omega) (show k % 20 < k / 20 by omega) h; omega
theorem cnt_190 {G : GL} {n m : Nat} {e : Nat → Nat} (hG : gOK G n) (hn : n ≤ 20) (h : ∀ t, t < m → isD G n (e t)) (h2 : ∀ t u, t < u → u < m → e t < e u) : m ≤ 190 := by
  refine fb_holes 190 m (fun t => uT (e t)) (fun t ht => ?_) (fun t u htu hu q => ?_)
  · have d := h t ht
    have d1 : e t / 20 ≠ e t % 20 := fun q => vE_irr q d.2.2
    have d2 := d.1
    have d3 := d.2.1
    show uT (e t) < tri 20
    unfold uT
    split
    · exact tri_lt (by omega) (by omega)
    · exact tri_lt (by omega) (by omega)
  · have := h2 t u htu hu
    have := uT_inj hG (h t (by omega)) (h u hu) q
    omega
theorem col_lt {G : GL} {n : Nat} {z : DS} (hG : gOK G n) (hn : n ≤ 20) (hz : z.1 = 0) (i j : Nat) (hi : i < n) (hj : j < n) (hp : 0 < vE G i j) : (fr 0 (fun j z => col1 G i j z) (fr 0 (fun i z => col2 G n i z) z i) j).1 < 190 := by
  obtain ⟨e1, h1⟩ := colI_out (G := G) hn hz i (by omega)
  obtain ⟨e2, h2⟩ := colI_in hn hi h1 j (by omega)
  obtain ⟨e3, g1, g2, g3, g4⟩ := colI_step hn hi hj h2
  have hc : (col1 G i j (fr 0 (fun j z => col1 G i j z) (fr 0 (fun i z => col2 G n i z) z i) j)).1 = (fr 0 (fun j z => col1 G i j z) (fr 0 (fun i z => col2 G n i z) z i) j).1 + 1 := by rw [col1_c, if_pos hp]
  have := cnt_190 hG hn (fun t ht => (g1 t ht).1) g3
  rw [hc] at this
  omega
/-- what collect leaves -/
theorem col_all {G : GL} {n : Nat} {z : DS} (hG : gOK G n) (hn : n ≤ 20) (hz : z.1 = 0) : (col G n z).1 ≤ 190 ∧ ∃ e, colI G n (20 * n) (col G n z) e := by
  obtain ⟨e, h⟩ := colI_out (G := G) hn hz n (Nat.le_refl n)
  exact ⟨cnt_190 hG hn (fun t ht => (h.1 t ht).1) h.2.2.1, e, h⟩
theorem insP_lt {od : Nat → Int32} {w k j : Nat} (h : j < w) : insP od w k j = od j := by
  unfold insP shu
  rw [pk_un (by omega), if_neg (by omega)]
theorem insP_eq {od : Nat → Int32} {w k : Nat} : insP od w k w = nI k := pk_us
theorem insP_gt {od : Nat → Int32} {w k j : Nat} (h : w < j) (h2 : j ≤ k) : insP od w k j = od (j - 1) := by
  unfold insP shu
  rw [pk_un (by omega), if_pos ⟨h, h2⟩]
/-- sorted so far -/
def SB (G : GL) (bs : Int32) (e : Nat → Nat) (k : Nat) (od : Nat → Int32) : Prop := lOK od k k ∧ ∀ u v, u < v → v < k → BF G bs (e (ix (od u))) (e (ix (od v)))
theorem SB_mono {G : GL} {n m k : Nat} {e : Nat → Nat} {dd ds dt : Nat → Int64} {bs : Int32} {od : Nat → Int32} (hG : gOK G n) (hs : slots G n m e dd ds dt) (hk : k < m) (h : SB G bs e k od) : mono dd ds dt bs od k := by
  intro a b hab hb hc
  have oa := (h.1 a (by omega)).2
  have ob := (h.1 b hb).2
  have ea := (z_b hG (hs _ (show ix (od a) < m by omega)).1).1
  have eb := (z_b hG (hs _ (show ix (od b) < m by omega)).1).1
  have ek := (z_b hG (hs k hk).1).1
  rw [cmp_iff bs hG hs hk (by omega)] at hc ⊢
  refine LT_nt ek ea eb hc ?_
  rcases h.2 a b hab hb with q | q
  · exact LT_as q
  · exact q.1
theorem SB_step {G : GL} {n m k : Nat} {e : Nat → Nat} {dd ds dt : Nat → Int64} {bs : Int32} {od : Nat → Int32} (hG : gOK G n) (hs : slots G n m e dd ds dt) (he : ∀ t u, t < u → u < m → e t < e u) (hk : k < m) (hm : m ≤ 190) (h : SB G bs e k od) : SB G bs e (k + 1) (rkf dd ds dt bs k od) := by
  have hmn := SB_mono hG hs hk h
  have hw := plc_le dd ds dt bs od k
  unfold rkf
  have lo : ∀ j, j < plc dd ds dt bs od k → ¬ LT G bs (e k) (e (ix (od j))) := by
    intro j hj q
    have := first_no (p := fun j => cmpS dd ds dt bs k (ix (od j)) < 0) (dp := fun _ => inferInstance) (n := k) hj
    exact this ((cmp_iff bs hG hs hk (by have := (h.1 j (by omega)).2; omega)).mpr q)
  have hi : ∀ j, plc dd ds dt bs od k ≤ j → j < k → LT G bs (e k) (e (ix (od j))) := by
    intro j h1 h2
    have y := first_yes (p := fun j => cmpS dd ds dt bs k (ix (od j)) < 0) (dp := fun _ => inferInstance) (n := k) (show plc dd ds dt bs od k < k by omega)
    refine (cmp_iff bs hG hs hk (by have := (h.1 j h2).2; omega)).mp ?_
    rcases Nat.lt_or_eq_of_le h1 with q | q
    · exact hmn _ _ q h2 y
    · rw [← q]; exact y
  generalize plc dd ds dt bs od k = w at *
  have ixk : ix (nI k) = k := ix_nI (by omega)
  have val : ∀ j, j < k + 1 → insP od w k j = nI (ix (insP od w k j)) ∧ ix (insP od w k j) < k + 1 := by
    intro j hj
    rcases Nat.lt_trichotomy j w with q | q | q
    · rw [insP_lt q]; have := h.1 j (by omega); exact ⟨this.1, by omega⟩
    · subst q; rw [insP_eq, ixk]; exact ⟨rfl, by omega⟩
    · rw [insP_gt q (by omega)]; have := h.1 (j - 1) (by omega); exact ⟨this.1, by omega⟩
  refine ⟨val, fun u v huv hv => ?_⟩
  have up : ∀ j, j < k → e (ix (od j)) < e k := fun j hj => he _ _ (h.1 j hj).2 hk
  rcases Nat.lt_trichotomy u w with q | q | q
  · rw [insP_lt q]
    rcases Nat.lt_trichotomy v w with r | r | r
    · rw [insP_lt r]; exact h.2 u v huv (by omega)
    · subst r; rw [insP_eq, ixk]
      exact Or.inr ⟨lo u q, up u (by omega)⟩
    · rw [insP_gt r (by omega)]; exact h.2 u (v - 1) (by omega) (by omega)
  · subst q
    rw [insP_eq, insP_gt huv (by omega), ixk]
    exact Or.inl (hi (v - 1) (by omega) (by omega))
  · rw [insP_gt q (by omega), insP_gt (by omega) (by omega)]
    exact h.2 (u - 1) (v - 1) (by omega) (by omega)
theorem SB_all {G : GL} {n m : Nat} {e : Nat → Nat} {dd ds dt : Nat → Int64} {bs : Int32} {od : Nat → Int32} (hG : gOK G n) (hs : slots G n m e dd ds dt) (he : ∀ t u, t < u → u < m → e t < e u) (hm : m ≤ 190) : ∀ k, k ≤ m → SB G bs e k (rkO dd ds dt bs od k)
  | 0, _ => ⟨fun j h => absurd h (Nat.not_lt_zero j), fun u v h1 h2 => absurd h2 (Nat.not_lt_zero v)⟩
  | k + 1, hk => by
    have := SB_all (bs := bs) (od := od) hG hs he hm k (by omega)
    unfold rkO at *
    rw [fr_s _ _ (Nat.zero_le k)]
    exact SB_step hG hs he (by omega) hm this
/-- the next doublet behind cu -/
def isNx (G : GL) (n : Nat) (bs : Int32) (cu : Option Nat) (d : Nat) : Prop := isD G n d ∧ (∀ x, cu = some x → BF G bs x d) ∧ ∀ y, isD G n y → (∀ x, cu = some x → BF G bs x y) → y = d ∨ BF G bs d y
def isAt (G : GL) (n : Nat) (bs : Int32) : Nat → Nat → Prop
  | 0, d => isNx G n bs none d
  | k + 1, d => ∃ x, isAt G n bs k x ∧ isNx G n bs (some x) d
theorem isNx_u {G : GL} {n : Nat} {bs : Int32} {cu : Option Nat} {d d' : Nat} (h : isNx G n bs cu d) (h' : isNx G n bs cu d') : d = d' := by
  rcases h.2.2 d' h'.1 h'.2.1 with q | q
  · exact q.symm
  · rcases h'.2.2 d h.1 h.2.1 with r | r
    · exact r
    · exact absurd r (BF_as q)
theorem isAt_u {G : GL} {n : Nat} {bs : Int32} : ∀ {k d d' : Nat}, isAt G n bs k d → isAt G n bs k d' → d = d'
  | 0, _, _, h, h' => isNx_u h h'
  | k + 1, _, _, ⟨x, h1, h2⟩, ⟨x', h1', h2'⟩ => by
    have := isAt_u h1 h1'
    subst this
    exact isNx_u h2 h2'
theorem isAt_D {G : GL} {n : Nat} {bs : Int32} : ∀ {k d : Nat}, isAt G n bs k d → isD G n d
  | 0, _, h => h.1
  | _ + 1, _, ⟨_, _, h⟩ => h.1
/-- the sorted slots run through the order -/
theorem SB_at {G : GL} {n m : Nat} {e : Nat → Nat} {dd ds dt : Nat → Int64} {bs : Int32} {od : Nat → Int32} (hs : slots G n m e dd ds dt) (hc : ∀ l, isD G n l → ∃ t, t < m ∧ e t = l) (h : SB G bs e m od) : ∀ k, k < m → isAt G n bs k (e (ix (od k))) := by
  have onto : ∀ l, isD G n l → ∃ u, u < m ∧ e (ix (od u)) = l := by
    intro l hl
    obtain ⟨t, h1, h2⟩ := hc l hl
    obtain ⟨u, h3, h4⟩ := fb_onto (n := m) (f := fun u => ix (od u)) (fun u hu => (h.1 u hu).2) (fun u v huv hv q => by
      have := h.2 u v huv hv
      have q : ix (od u) = ix (od v) := q
      rw [q] at this
      exact BF_irr _ _ _ this) h1
    exact ⟨u, h3, by rw [show ix (od u) = t from h4]; exact h2⟩
  have nx : ∀ k, k + 1 < m → isNx G n bs (some (e (ix (od k)))) (e (ix (od (k + 1)))) := by
    intro k hk
    refine ⟨(hs _ (h.1 (k + 1) hk).2).1, fun x hx => by cases hx; exact h.2 k (k + 1) (by omega) hk, fun y hy hb => ?_⟩
    obtain ⟨u, h3, h4⟩ := onto y hy
    subst h4
    have hb := hb _ rfl
    rcases Nat.lt_trichotomy u (k + 1) with q | q | q
    · rcases Nat.lt_or_eq_of_le (show u ≤ k by omega) with r | r
      · exact absurd hb (BF_as (h.2 u k r (by omega)))
      · subst r; exact absurd hb (BF_irr _ _ _)
    · subst q; exact Or.inl rfl
    · exact Or.inr (h.2 (k + 1) u q h3)
  intro k
  induction k with
  | zero =>
    intro hk
    refine ⟨(hs _ (h.1 0 hk).2).1, fun x hx => (by cases hx), fun y hy _ => ?_⟩
    obtain ⟨u, h3, h4⟩ := onto y hy
    subst h4
    rcases Nat.eq_zero_or_pos u with q | q
    · subst q; exact Or.inl rfl
    · exact Or.inr (h.2 0 u q h3)
  | succ k ih => intro hk; exact ⟨_, ih (by omega), nx k hk⟩
/-- the answer of doubletAt -/
noncomputable def sDA (G : GL) (n : Nat) (bs x : Int32) : Int64 := if hasP x (cntD G n) then Classical.epsilon (fun r : Int64 => ∃ d, isAt G n bs (ix x) d ∧ r = lN (100 * (d / 20) + d % 20)) else cNO
theorem sDA_eq {G : GL} {n : Nat} {bs x : Int32} {d : Nat} (hx : hasP x (cntD G n)) (h : isAt G n bs (ix x) d) : sDA G n bs x = lN (100 * (d / 20) + d % 20) := by
  rw [sDA, if_pos hx]
  obtain ⟨d', h1, h2⟩ := Classical.epsilon_spec (p := fun r : Int64 => ∃ d, isAt G n bs (ix x) d ∧ r = lN (100 * (d / 20) + d % 20)) ⟨_, d, h, rfl⟩
  rw [h2, isAt_u h1 h]
theorem at_ex {G : GL} {n : Nat} (bs : Int32) (hG : gOK G n) (hn : n ≤ 20) {k : Nat} (hk : k < cntD G n) : ∃ d, isAt G n bs k d := by
  obtain ⟨hm, e, h⟩ := col_all (z := ((0 : Nat), (fun _ => 0), (fun _ => 0), (fun _ => 0), (fun _ => 0))) hG hn rfl
  have hc := col_c G n ((0 : Nat), (fun _ => 0), (fun _ => 0), (fun _ => 0), (fun _ => 0)) rfl
  have s := SB_all (bs := bs) (od := fun _ => 0) hG h.1 h.2.2.1 hm _ (Nat.le_refl _)
  exact ⟨_, SB_at h.1 (fun l hl => h.2.2.2 l (by have := hl.1; omega) hl) s k (by rw [hc]; exact hk)⟩
