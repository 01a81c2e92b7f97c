/-! the ranking's words -/
abbrev DS : Type := Nat × (Nat → Int32) × (Nat → Int64) × (Nat → Int64) × (Nat → Int64)
def vStr (G : GL) (i j : Nat) : Int64 := vA G i * vB G j + vA G j * vB G i
/-- doublet (i, j) kept -/
def kp (G : GL) (i j : Nat) (z : DS) : DS := (z.1 + 1, upd z.2.1 z.1 (nI (100 * i + j)), vp_updL z.2.2.1 z.1 (vE G i j), vp_updL z.2.2.2.1 z.1 (labs (vX G j i)), vp_updL z.2.2.2.2 z.1 (vStr G i j))
def col1 (G : GL) (i j : Nat) (z : DS) : DS := if 0 < vE G i j then kp G i j z else z
def col2 (G : GL) (n i : Nat) (z : DS) : DS := fr 0 (fun j z => col1 G i j z) z n
def col (G : GL) (n : Nat) (z : DS) : DS := fr 0 (fun i z => col2 G n i z) z n
/-- two slots compared -/
def cmpS (dd ds dt : Nat → Int64) (bs : Int32) (a b : Nat) : Int32 := if bs = 0 then if lcm (ds a * dd b) (ds b * dd a) = 0 then lcm (dt a * dd b) (dt b * dd a) else lcm (ds a * dd b) (ds b * dd a) else if lcm (dt a * dd b) (dt b * dd a) = 0 then lcm (ds a * dd b) (ds b * dd a) else lcm (dt a * dd b) (dt b * dd a)
/-- the place of slot k among those before it -/
def plc (dd ds dt : Nat → Int64) (bs : Int32) (od : Nat → Int32) (k : Nat) : Nat := first (fun j => cmpS dd ds dt bs k (ix (od j)) < 0) (fun _ => inferInstance) k
def mono (dd ds dt : Nat → Int64) (bs : Int32) (od : Nat → Int32) (k : Nat) : Prop := ∀ a b, a < b → b < k → cmpS dd ds dt bs k (ix (od a)) < 0 → cmpS dd ds dt bs k (ix (od b)) < 0
/-- the places above a up to k take what stands one before -/
def shu (od : Nat → Int32) (a k : Nat) : Nat → Int32 := fun j => if a < j ∧ j ≤ k then od (j - 1) else od j
def insP (od : Nat → Int32) (w k : Nat) : Nat → Int32 := upd (shu od w k) w (nI k)
def rkf (dd ds dt : Nat → Int64) (bs : Int32) (k : Nat) (od : Nat → Int32) : Nat → Int32 := insP od (plc dd ds dt bs od k) k
def rkO (dd ds dt : Nat → Int64) (bs : Int32) (od : Nat → Int32) (k : Nat) : Nat → Int32 := fr 0 (fun k od => rkf dd ds dt bs k od) od k
theorem plc_le (dd ds dt : Nat → Int64) (bs : Int32) (od : Nat → Int32) (k : Nat) : plc dd ds dt bs od k ≤ k := first_le k
theorem shu_0 (od : Nat → Int32) (k : Nat) : shu od k k = od := by
  funext j
  unfold shu
  rw [if_neg (by omega)]
theorem shu_at (od : Nat → Int32) {a k : Nat} (h : 0 < a) : shu od a k (a - 1) = od (a - 1) := by
  unfold shu
  rw [if_neg (by omega)]
theorem shu_s (od : Nat → Int32) {a k : Nat} (h : 0 < a) (h2 : a ≤ k) : upd (shu od a k) a (od (a - 1)) = shu od (a - 1) k := by
  funext j
  by_cases q : j = a
  · subst q
    rw [pk_us, shu, if_pos (by omega)]
  · rw [pk_un q]
    unfold shu
    by_cases z : a < j ∧ j ≤ k
    · rw [if_pos z, if_pos (by omega)]
    · rw [if_neg z, if_neg (by omega)]
