/-! the reference's reading of the text, and what the class reads there -/
/-- two roads meet at pcJ, with a fact -/
theorem rjoinP {p : Program} {l : Launch} {e : Env} {R : Room} {s : State} {m : MethodId} {args : Array Value} {below : List Frame} {meth : Method} {c : Code} {H : Heap} {locs : List Loc} {cells slots : Nat} {Q : State → Prop} {nL : Nat} (pcJ : Nat) (L : List (Nat × Value)) (st : List Value) (F : Prop) (hJ : ∀ ls, lv_has ls nL L → F → W p l e R s m args below meth c H locs cells slots Q (F0 m pcJ ls st)) {g : JFrame}
    (hB : (∀ ls, lv_has ls nL L → F → W p l e R s m args below meth c H locs cells slots Q (F0 m pcJ ls st)) → W p l e R s m args below meth c H locs cells slots Q g) : W p l e R s m args below meth c H locs cells slots Q g := hB hJ
def kN (bf : Nat → Int32) (k : Nat) : Nat := fr 0 (fun a z => z * 128 + ix (bf a)) 0 k
def numP (bf : Nat → Int32) (L w j : Nat) : Int32 := fr (L + w * 7 + 1) (fun a z => 10 * z + bf a - 48) 0 (L + w * 7 + 1 + j)
/-- field, many, place, goes, readName, readNumber -/
abbrev PT : Type := Nat × Nat × Nat × Bool × Int64 × (Nat → Int32)
def PA (bf : Nat → Int32) (ln : Nat) (z : PT) : Prop := z.1 = 0 ∧ z.2.1 = z.2.2.1 ∧ z.2.2.1 ≤ 6 ∧ z.2.2.1 ≤ ln ∧ (∀ j, j < z.2.2.1 → isNm bf j) ∧ z.2.2.2.2.1 = lN (kN bf z.2.2.1)
def PB (bf : Nat → Int32) (ln : Nat) (z : PT) : Prop := 1 ≤ z.1 ∧ z.1 ≤ 3 ∧ z.2.1 ≤ 6 ∧ 0 < nmLen bf ln ∧ z.2.2.1 = nmLen bf ln + 7 * (z.1 - 1) + 1 + z.2.1 ∧ z.2.2.1 ≤ ln ∧ (∀ j, nmLen bf ln ≤ j → j < z.2.2.1 → allw (j - nmLen bf ln) (bf j)) ∧ z.2.2.2.2.1 = lN (kN bf (nmLen bf ln)) ∧ (∀ w, w + 1 < z.1 → z.2.2.2.2.2 w = numP bf (nmLen bf ln) w 6) ∧ z.2.2.2.2.2 (z.1 - 1) = numP bf (nmLen bf ln) (z.1 - 1) z.2.1
def PI (bf : Nat → Int32) (ln : Nat) (z : PT) : Prop := (z.2.2.2.1 = true ∧ (PA bf ln z ∨ PB bf ln z)) ∨ (z.2.2.2.1 = false ∧ z.2.2.1 = faultA bf ln ∧ z.2.2.1 < ln ∧ z.2.2.2.2.1 = lN (kN bf (nmLen bf ln)))
abbrev C1 (bf : Nat → Int32) (z : PT) : Prop := z.1 = 0 ∧ z.2.1 < 6 ∧ (isLet (bf z.2.2.1) ∨ (isDig (bf z.2.2.1) ∧ 0 < z.2.1))
abbrev C2 (bf : Nat → Int32) (z : PT) : Prop := bf z.2.2.1 = 32 ∧ ((z.1 = 0 ∧ 0 < z.2.1) ∨ ((1 ≤ z.1 ∧ z.1 ≤ 2) ∧ z.2.1 = 6))
abbrev C3 (bf : Nat → Int32) (z : PT) : Prop := 0 < z.1 ∧ isDig (bf z.2.2.1) ∧ z.2.1 < 6 ∧ (0 < z.2.1 ∨ ¬ bf z.2.2.1 = 48)
theorem nm_ix {ch : Int32} (h : 48 ≤ ch) (h2 : ch ≤ 90) : ch = nI (ix ch) ∧ 48 ≤ ix ch ∧ ix ch ≤ 90 := by
  obtain ⟨v, hv, e⟩ := hasP_ex (x := ch) (n := 128) (by omega) ⟨Int32.le_trans (by decide) h, Int32.lt_of_le_of_lt h2 (by decide)⟩
  subst e
  rw [ix_nI (by omega)]
  exact ⟨rfl, (nI_leI (a := 48) (by omega) (by omega)).mp h, (nI_leI (b := 90) (by omega) (by omega)).mp h2⟩
theorem nm_b {bf : Nat → Int32} {a : Nat} (h : isNm bf a) : 48 ≤ bf a ∧ bf a ≤ 90 := by
  rcases h with h | h
  · exact ⟨Int32.le_trans (by decide) h.1, h.2⟩
  · exact ⟨h.2.1, Int32.le_trans h.2.2 (by decide)⟩
theorem kN_s (bf : Nat → Int32) (k : Nat) : kN bf (k + 1) = kN bf k * 128 + ix (bf k) := by
  unfold kN
  rw [fr_s _ _ (Nat.zero_le k)]
theorem kN_l {bf : Nat → Int32} {k : Nat} (h : isNm bf k) : lN (kN bf k) * 128 + (bf k).toInt64 = lN (kN bf (k + 1)) := by
  have b := nm_b h
  obtain ⟨e, h1, h2⟩ := nm_ix b.1 b.2
  rw [kN_s]
  have e2 : (bf k).toInt64 = lN (ix (bf k)) := by
    rw [show (bf k).toInt64 = (nI (ix (bf k))).toInt64 from by rw [← e]]
    exact nI_l (by omega)
  rw [e2, show lN (kN bf k) * 128 = lN (kN bf k * 128) from lN_mul _ 128, lN_add]
/-- behind the name -/
theorem nm_end {bf : Nat → Int32} {ln k : Nat} (hk : k ≤ ln) (h6 : k ≤ 6) (hn : ∀ j, j < k → isNm bf j) (he : k < ln → k < 6 → ¬ isNm bf k) : nmLen bf ln = k :=
  first_eq (by omega) (fun j hj w => w (hn j hj)) (fun w => he (by omega) (by omega))
theorem PA_end {bf : Nat → Int32} {ln : Nat} {z : PT} (h : PA bf ln z) (h1 : ¬ C1 bf z) : nmLen bf ln = z.2.2.1 := by
  obtain ⟨a1, a2, a3, a4, a5, a6⟩ := h
  refine nm_end a4 a3 a5 (fun _ w q => h1 ⟨a1, by omega, ?_⟩)
  rcases q with q | q
  · exact Or.inl q
  · exact Or.inr ⟨q.2, by omega⟩
theorem PI_0 (bf : Nat → Int32) (ln : Nat) (ru : Nat → Int32) : PI bf ln (0, 0, 0, true, 0, ru) := Or.inl ⟨rfl, Or.inl ⟨rfl, rfl, Nat.zero_le _, Nat.zero_le _, fun j h => absurd h (Nat.not_lt_zero j), rfl⟩⟩
theorem PI_go {bf : Nat → Int32} {ln : Nat} {z : PT} (h : PI bf ln z) (hg : z.2.2.2.1 = true) : PA bf ln z ∨ PB bf ln z := by
  rcases h with h | h
  · exact h.2
  · rw [hg] at h; exact absurd h.1 (by decide)
theorem PI_name {bf : Nat → Int32} {ln : Nat} {z : PT} (h : PI bf ln z) (hg : z.2.2.2.1 = true) (hk : z.2.2.1 < ln) (h1 : C1 bf z) : PI bf ln (z.1, z.2.1 + 1, z.2.2.1 + 1, true, z.2.2.2.2.1 * 128 + (bf z.2.2.1).toInt64, z.2.2.2.2.2) := by
  rcases PI_go h hg with ⟨a1, a2, a3, a4, a5, a6⟩ | hb
  · have hn : isNm bf z.2.2.1 := by
      rcases h1.2.2 with q | q
      · exact Or.inl q
      · exact Or.inr ⟨by omega, q.1⟩
    refine Or.inl ⟨rfl, Or.inl ⟨a1, by show z.2.1 + 1 = z.2.2.1 + 1; omega, by show z.2.2.1 + 1 ≤ 6; have := h1.2.1; omega, by show z.2.2.1 + 1 ≤ ln; omega, fun j hj => ?_, ?_⟩⟩
    · have hj : j < z.2.2.1 + 1 := hj
      by_cases q : j = z.2.2.1
      · rw [q]; exact hn
      · exact a5 j (by omega)
    · show z.2.2.2.2.1 * 128 + (bf z.2.2.1).toInt64 = lN (kN bf (z.2.2.1 + 1))
      rw [a6]; exact kN_l hn
  · have := hb.1; have := h1.1; omega
theorem PI_blank {bf : Nat → Int32} {ln : Nat} {z : PT} (h : PI bf ln z) (hg : z.2.2.2.1 = true) (hk : z.2.2.1 < ln) (h1 : ¬ C1 bf z) (h2 : C2 bf z) : PI bf ln (z.1 + 1, 0, z.2.2.1 + 1, true, z.2.2.2.2.1, upd z.2.2.2.2.2 z.1 0) := by
  rcases PI_go h hg with ha | ⟨b1, b2, b3, b4, b5, b6, b7, b8, b9, b10⟩
  · have e := PA_end ha h1
    obtain ⟨a1, a2, a3, a4, a5, a6⟩ := ha
    have hm : 0 < z.2.1 := by
      rcases h2.2 with q | q
      · exact q.2
      · have := q.1.1; omega
    refine Or.inl ⟨rfl, Or.inr ⟨by show 1 ≤ z.1 + 1; omega, by show z.1 + 1 ≤ 3; omega, Nat.zero_le _, by omega, by show z.2.2.1 + 1 = nmLen bf ln + 7 * (z.1 + 1 - 1) + 1 + 0; omega, by show z.2.2.1 + 1 ≤ ln; omega, fun j hj1 hj2 => ?_, by show z.2.2.2.2.1 = _; rw [a6, e], fun w hw => absurd hw (by show ¬ w + 1 < z.1 + 1; omega), ?_⟩⟩
    · have hj2 : j < z.2.2.1 + 1 := hj2
      have q : j = z.2.2.1 := by omega
      rw [q, e, Nat.sub_self]
      exact ⟨by omega, Or.inl ⟨rfl, h2.1⟩⟩
    · show upd z.2.2.2.2.2 z.1 0 (z.1 + 1 - 1) = numP bf (nmLen bf ln) (z.1 + 1 - 1) 0
      rw [Nat.add_sub_cancel, pk_us, numP, Nat.add_zero, fr_0]
  · have hf : z.1 ≤ 2 ∧ z.2.1 = 6 := by
      rcases h2.2 with q | q
      · have := q.1; omega
      · exact ⟨q.1.2, q.2⟩
    refine Or.inl ⟨rfl, Or.inr ⟨by show 1 ≤ z.1 + 1; omega, by show z.1 + 1 ≤ 3; omega, Nat.zero_le _, b4, by show z.2.2.1 + 1 = nmLen bf ln + 7 * (z.1 + 1 - 1) + 1 + 0; omega, by show z.2.2.1 + 1 ≤ ln; omega, fun j hj1 hj2 => ?_, b8, fun w hw => ?_, ?_⟩⟩
    · have hj2 : j < z.2.2.1 + 1 := hj2
      by_cases q : j = z.2.2.1
      · rw [q]
        exact ⟨by omega, Or.inl ⟨by omega, h2.1⟩⟩
      · exact b7 j hj1 (by omega)
    · have hw : w + 1 < z.1 + 1 := hw
      show upd z.2.2.2.2.2 z.1 0 w = _
      rw [pk_un (by omega)]
      by_cases q : w + 1 < z.1
      · exact b9 w q
      · have q2 : w = z.1 - 1 := by omega
        rw [q2, b10, hf.2]
    · show upd z.2.2.2.2.2 z.1 0 (z.1 + 1 - 1) = numP bf (nmLen bf ln) (z.1 + 1 - 1) 0
      rw [Nat.add_sub_cancel, pk_us, numP, Nat.add_zero, fr_0]
theorem PI_digit {bf : Nat → Int32} {ln : Nat} {z : PT} (h : PI bf ln z) (hg : z.2.2.2.1 = true) (hk : z.2.2.1 < ln) (h3 : C3 bf z) : PI bf ln (z.1, z.2.1 + 1, z.2.2.1 + 1, true, z.2.2.2.2.1, upd z.2.2.2.2.2 (z.1 - 1) (10 * z.2.2.2.2.2 (z.1 - 1) + bf z.2.2.1 - 48)) := by
  rcases PI_go h hg with ha | ⟨b1, b2, b3, b4, b5, b6, b7, b8, b9, b10⟩
  · have := ha.1; have := h3.1; omega
  · have hm := h3.2.2.1
    refine Or.inl ⟨rfl, Or.inr ⟨b1, b2, by show z.2.1 + 1 ≤ 6; omega, b4, by show z.2.2.1 + 1 = nmLen bf ln + 7 * (z.1 - 1) + 1 + (z.2.1 + 1); omega, by show z.2.2.1 + 1 ≤ ln; omega, fun j hj1 hj2 => ?_, b8, fun w hw => ?_, ?_⟩⟩
    · have hj2 : j < z.2.2.1 + 1 := hj2
      by_cases q : j = z.2.2.1
      · rw [q]
        refine ⟨by omega, Or.inr ⟨by omega, h3.2.1, ?_⟩⟩
        rcases h3.2.2.2 with w | w
        · exact Or.inl (by omega)
        · exact Or.inr w
      · exact b7 j hj1 (by omega)
    · have hw : w + 1 < z.1 := hw
      show upd z.2.2.2.2.2 (z.1 - 1) _ w = _
      rw [pk_un (by omega)]
      exact b9 w hw
    · show upd z.2.2.2.2.2 (z.1 - 1) (10 * z.2.2.2.2.2 (z.1 - 1) + bf z.2.2.1 - 48) (z.1 - 1) = numP bf (nmLen bf ln) (z.1 - 1) (z.2.1 + 1)
      rw [pk_us, b10, numP, numP, ← Nat.add_assoc, fr_s _ _ (by omega)]
      have q : nmLen bf ln + (z.1 - 1) * 7 + 1 + z.2.1 = z.2.2.1 := by omega
      rw [q]
theorem PI_fail {bf : Nat → Int32} {ln : Nat} {z : PT} (h : PI bf ln z) (hg : z.2.2.2.1 = true) (hk : z.2.2.1 < ln) (h1 : ¬ C1 bf z) (h2 : ¬ C2 bf z) (h3 : ¬ C3 bf z) : PI bf ln (z.1, z.2.1, z.2.2.1, false, z.2.2.2.2.1, z.2.2.2.2.2) := by
  rcases PI_go h hg with ha | ⟨b1, b2, b3, b4, b5, b6, b7, b8, b9, b10⟩
  · have e := PA_end ha h1
    obtain ⟨a1, a2, a3, a4, a5, a6⟩ := ha
    refine Or.inr ⟨rfl, ?_, hk, by show z.2.2.2.2.1 = _; rw [a6, e]⟩
    show z.2.2.1 = faultA bf ln
    rw [faultA]
    split
    · omega
    · refine (first_eq (by omega) (fun j hj w => by have := w.1; omega) (fun _ => ⟨by omega, fun w => ?_⟩)).symm
      rw [e, Nat.sub_self] at w
      rcases w.2 with q | q
      · exact h2 ⟨q.2, Or.inl ⟨a1, by omega⟩⟩
      · exact q.1 rfl
  · refine Or.inr ⟨rfl, ?_, hk, b8⟩
    show z.2.2.1 = faultA bf ln
    rw [faultA, if_neg (by omega)]
    refine (first_eq (by omega) (fun j hj w => w.2 (b7 j w.1 hj)) (fun _ => ⟨by omega, fun w => ?_⟩)).symm
    have o : z.2.2.1 - nmLen bf ln = 7 * (z.1 - 1) + 1 + z.2.1 := by omega
    rw [o] at w
    rcases w.2 with q | q
    · exact h2 ⟨q.2, Or.inr ⟨⟨b1, by have := w.1; omega⟩, by omega⟩⟩
    · refine h3 ⟨by omega, q.2.1, by omega, ?_⟩
      rcases q.2.2 with r | r
      · exact Or.inl (by omega)
      · exact Or.inr r
theorem numP_A {bf : Nat → Int32} {ln w : Nat} (h : nmLen bf ln + w * 7 + 1 + 6 ≤ ln) : numP bf (nmLen bf ln) w 6 = numA bf ln w := by
  unfold numP numA
  refine fr_cong (fun a z h1 h2 => ?_)
  rw [cAt, if_pos (by omega)]
/-- at the end -/
theorem PI_end {bf : Nat → Int32} {ln : Nat} {z : PT} (h : PI bf ln z) (he : ¬ z.2.2.2.1 = true ∨ ln ≤ z.2.2.1) : z.2.2.1 = faultA bf ln ∧ ((z.2.2.2.1 = true ∧ z.1 = 3 ∧ z.2.1 = 6) ↔ isWh bf ln) ∧ z.2.2.2.2.1 = lN (kN bf (nmLen bf ln)) ∧ (isWh bf ln → ∀ w, w < 3 → z.2.2.2.2.2 w = numA bf ln w) := by
  have hL := nmLen_le bf ln
  rcases h with ⟨hg, h⟩ | ⟨hg, h1, h2, h3⟩
  · have hk : ln ≤ z.2.2.1 := he.resolve_left (fun w => w hg)
    rcases h with ⟨a1, a2, a3, a4, a5, a6⟩ | ⟨b1, b2, b3, b4, b5, b6, b7, b8, b9, b10⟩
    · have e : nmLen bf ln = z.2.2.1 := nm_end a4 a3 a5 (fun w => absurd w (by omega))
      refine ⟨?_, ⟨fun w => by have := w.2.1; omega, fun w => by have := w.2.1; omega⟩, by rw [a6, e], fun w => by have := w.2.1; omega⟩
      rw [faultA]
      split
      · omega
      · exact (first_eq (by omega) (fun j hj w => by have := w.1; omega) (fun w => absurd w (by omega))).symm
    · have hf : faultA bf ln = z.2.2.1 := by
        rw [faultA, if_neg (by omega)]
        exact first_eq (by omega) (fun j hj w => w.2 (b7 j w.1 hj)) (fun w => absurd w (by omega))
      refine ⟨hf.symm, ⟨fun w => ⟨b4, by omega, by omega⟩, fun w => ⟨hg, by have := w.2.1; omega, by have := w.2.1; omega⟩⟩, b8, fun w v hv => ?_⟩
      have wl := w.2.1
      have h6 : z.1 = 3 ∧ z.2.1 = 6 := by omega
      have hn : z.2.2.2.2.2 v = numP bf (nmLen bf ln) v 6 := by
        by_cases q : v + 1 < z.1
        · exact b9 v q
        · have q2 : v = z.1 - 1 := by omega
          rw [q2, b10, h6.2]
      rw [hn, numP_A (by omega)]
  · refine ⟨h1, ⟨fun w => by rw [hg] at w; exact absurd w.1 (by decide), fun w => by have := w.2.2; omega⟩, h3, fun w => by have := w.2.2; omega⟩
/-! the name filled up -/
theorem kN_b {bf : Nat → Int32} : ∀ {k : Nat}, (∀ j, j < k + 1 → isNm bf j) → 64 * 128 ^ k ≤ kN bf (k + 1) ∧ kN bf (k + 1) < 128 ^ (k + 1)
  | 0, h => by
    have q : isLet (bf 0) := by
      rcases h 0 (by omega) with q | q
      · exact q
      · exact absurd q.1 (by omega)
    obtain ⟨e, h1, h2⟩ := nm_ix (Int32.le_trans (by decide) q.1) q.2
    have h3 : 65 ≤ ix (bf 0) := by
      have := q.1
      rw [e] at this
      exact (nI_leI (a := 65) (by omega) (by omega)).mp this
    rw [kN_s, show kN bf 0 = 0 from rfl]
    omega
  | k + 1, h => by
    have ih := kN_b (k := k) (fun j hj => h j (by omega))
    have b := nm_b (h (k + 1) (by omega))
    obtain ⟨e, h1, h2⟩ := nm_ix b.1 b.2
    rw [kN_s, Nat.pow_succ 128 k, Nat.pow_succ 128 (k + 1)]
    omega
theorem nm_all (bf : Nat → Int32) (ln : Nat) : ∀ j, j < nmLen bf ln → isNm bf j := fun j hj => Decidable.byContradiction (first_no (p := fun a => ¬ isNm bf a) (dp := fun _ => inferInstance) (n := min ln 6) hj)
def padN (bf : Nat → Int32) (ln t : Nat) : Nat := kN bf (nmLen bf ln) * 128 ^ t
theorem padN_s (bf : Nat → Int32) (ln t : Nat) : padN bf ln (t + 1) = padN bf ln t * 128 := by
  unfold padN
  rw [Nat.pow_succ, Nat.mul_assoc]
theorem padN_0 (bf : Nat → Int32) (ln : Nat) : padN bf ln 0 = kN bf (nmLen bf ln) := by
  unfold padN
  rw [Nat.pow_zero, Nat.mul_one]
theorem padN_b {bf : Nat → Int32} {ln : Nat} (hL : 0 < nmLen bf ln) (t : Nat) : 64 * 128 ^ (nmLen bf ln - 1 + t) ≤ padN bf ln t ∧ padN bf ln t < 128 ^ (nmLen bf ln + t) := by
  have h := kN_b (bf := bf) (k := nmLen bf ln - 1) (fun j hj => nm_all bf ln j (by omega))
  rw [show nmLen bf ln - 1 + 1 = nmLen bf ln by omega] at h
  unfold padN
  rw [Nat.pow_add, Nat.pow_add, ← Nat.mul_assoc]
  exact ⟨Nat.mul_le_mul_right _ h.1, Nat.mul_lt_mul_of_pos_right h.2 (Nat.pow_pos (by omega))⟩
theorem kN_00 {bf : Nat → Int32} {ln : Nat} (h : nmLen bf ln = 0) (t : Nat) : padN bf ln t = 0 := by
  unfold padN
  rw [h, show kN bf 0 = 0 from rfl, Nat.zero_mul]
theorem pow_le6 {a b : Nat} (h : a ≤ b) : 128 ^ a ≤ 128 ^ b := Nat.pow_le_pow_right (by omega) h
theorem padN_63 {bf : Nat → Int32} {ln t : Nat} (ht : t ≤ 6 - nmLen bf ln) : padN bf ln t < 2 ^ 62 := by
  by_cases hL : 0 < nmLen bf ln
  · have h := (padN_b hL t).2
    have := pow_le6 (show nmLen bf ln + t ≤ 6 by have := (nmLen_le bf ln).2; omega)
    omega
  · rw [kN_00 (by omega)]; omega
theorem padN_lt {bf : Nat → Int32} {ln t : Nat} (ht : t ≤ 6 - nmLen bf ln) (h0 : 0 < padN bf ln t) (h : padN bf ln t < 34359738368) : t + 1 ≤ 6 - nmLen bf ln := by
  by_cases hL : 0 < nmLen bf ln
  · have hl := (nmLen_le bf ln).2
    have b := (padN_b hL t).1
    by_cases q : t + 1 ≤ 6 - nmLen bf ln
    · exact q
    · have := pow_le6 (show 5 ≤ nmLen bf ln - 1 + t by omega)
      omega
  · rw [kN_00 (by omega)] at h0; omega
theorem padN_end {bf : Nat → Int32} {ln t : Nat} (hL : 0 < nmLen bf ln) (ht : t ≤ 6 - nmLen bf ln) (h : ¬ 0 < padN bf ln t ∨ ¬ padN bf ln t < 34359738368) : t = 6 - nmLen bf ln := by
  have b := padN_b hL t
  rcases h with h | h
  · have : 0 < 128 ^ (nmLen bf ln - 1 + t) := Nat.pow_pos (by omega)
    omega
  · by_cases q : t = 6 - nmLen bf ln
    · exact q
    · have := pow_le6 (show nmLen bf ln + t ≤ 5 by omega)
      omega
theorem key_pad {bf : Nat → Int32} {ln : Nat} (hL : 0 < nmLen bf ln) : keyA bf ln = lN (padN bf ln (6 - nmLen bf ln)) := by
  have hl := (nmLen_le bf ln).2
  have g := fr_inv (f := fun a z => 128 * z + (if a < nmLen bf ln then bf a else 0).toInt64) (z := (0 : Int64)) (fun j z => z = lN (if j ≤ nmLen bf ln then kN bf j else padN bf ln (j - nmLen bf ln))) (by rw [if_pos (Nat.zero_le _)]; rfl) (n := 6) (fun j w hj hw => ?_) 6 (Nat.le_refl 6)
  · unfold keyA
    rw [g]
    by_cases q : 6 ≤ nmLen bf ln
    · rw [if_pos q, show 6 - nmLen bf ln = 0 by omega, padN_0, show nmLen bf ln = 6 by omega]
    · rw [if_neg q]
  · show 128 * w + (if j < nmLen bf ln then bf j else 0).toInt64 = _
    rw [hw, Int64.mul_comm]
    by_cases q : j < nmLen bf ln
    · rw [if_pos q, if_pos (by omega), if_pos (by omega)]
      exact kN_l (nm_all bf ln j q)
    · rw [if_neg q, if_neg (show ¬ j + 1 ≤ nmLen bf ln by omega), show (0 : Int32).toInt64 = 0 from by decide, Int64.add_zero]
      by_cases r : j ≤ nmLen bf ln
      · have e : j = nmLen bf ln := by omega
        rw [if_pos r, show j + 1 - nmLen bf ln = 0 + 1 by omega, padN_s, padN_0, e]
        exact lN_mul _ 128
      · rw [if_neg r, show j + 1 - nmLen bf ln = j - nmLen bf ln + 1 by omega, padN_s]
        exact lN_mul _ 128
abbrev PS : Type := Int64 × Int32 × Int32 × (Nat → Int32)
theorem w_N {x : Nat} (hx : x < 2 ^ 31) : wthn (lN x) 1 2 ↔ 1 ≤ x ∧ x ≤ 2 := and_congr (lN_le (a := 1) (by omega) hx) (lN_le (b := 2) hx (by omega))
theorem l_pos {v : Nat} (h : v < 2 ^ 63) : 0 < lN v ↔ 0 < v := pk_lLT (a := 0) (by omega) h
theorem l_35 {v : Nat} (h : v < 2 ^ 63) : lN v < 34359738368 ↔ v < 34359738368 := pk_lLT (b := 34359738368) h (by omega)
theorem PI_bd {bf : Nat → Int32} {ln : Nat} {z : PT} (h : PA bf ln z ∨ PB bf ln z) : z.1 ≤ 3 ∧ z.2.1 ≤ 6 ∧ z.2.2.1 ≤ ln := by
  rcases h with h | h
  · obtain ⟨a1, a2, a3, a4, a5, a6⟩ := h
    omega
  · obtain ⟨b1, b2, b3, b4, b5, b6, _⟩ := h
    omega
/-- three numbers side by side, the first k of them -/
def in3 (f : Nat → Int32) (lo : Nat) (v : Nat → Int32) (k : Nat) : Nat → Int32 := fun j => if lo ≤ j ∧ j < lo + k then v (j - lo) else f j
theorem in3_0 (f : Nat → Int32) (lo : Nat) (v : Nat → Int32) : in3 f lo v 0 = f := by
  funext j
  unfold in3
  rw [if_neg (by omega)]
theorem in3_s (f : Nat → Int32) (lo : Nat) (v : Nat → Int32) (k : Nat) : upd (in3 f lo v k) (lo + k) (v k) = in3 f lo v (k + 1) := by
  funext j
  by_cases q : j = lo + k
  · subst q
    rw [pk_us, in3, if_pos (by omega), Nat.add_sub_cancel_left]
  · rw [pk_un q]
    unfold in3
    by_cases z : lo ≤ j ∧ j < lo + k
    · rw [if_pos z, if_pos (by omega)]
    · rw [if_neg z, if_neg (by omega)]
theorem in3_G (G : GL) (n : Nat) (y : Int64) (v : Nat → Int32) : in3 (ilv G) (3 * n) v 3 = ilv (addG G n y (v 0) (v 1) (v 2)) := by
  rw [← ilv_add, ← in3_s, ← in3_s, ← in3_s, in3_0]
