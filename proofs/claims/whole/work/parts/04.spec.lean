/-! ===== the words of the class's and the reference's numbers ===== -/
def px (b i : Nat) : Nat := 8 * (4 * (b / 2) + i / 4) + (4 * (b % 2) + i % 4)
theorem px_lt {b i : Nat} (hb : b < 4) (hi : i < 16) : px b i < 64 := by unfold px; omega
def mdn (m : Nat) : Int := ((m / 5 : Nat) : Int) - 2
def mrt (m : Nat) : Int := ((m % 5 : Nat) : Int) - 2
theorem mdn_in {m : Nat} (h : m < 25) : -2 ≤ mdn m ∧ mdn m ≤ 2 := by unfold mdn; omega
theorem mrt_in (m : Nat) : -2 ≤ mrt m ∧ mrt m ≤ 2 := by unfold mrt; omega
def ed (x : Int) : Nat := if x < 0 then 0 else if 8 ≤ x then 7 else x.toNat
theorem ed_lt (x : Int) : ed x < 8 := by unfold ed; split <;> first | omega | (split <;> omega)
theorem ed_lo {x : Int} (h : x < 0) : nI 0 = nI (ed x) := by unfold ed; rw [if_pos h]
theorem ed_hi {x : Int} (h : 8 ≤ x) : nI 7 = nI (ed x) := by unfold ed; rw [if_neg (by omega), if_pos h]
theorem ed_mid {x : Int} (h0 : 0 ≤ x) (h : x < 8) : iI x = nI (ed x) := by
  unfold ed
  rw [if_neg (by omega), if_neg (by omega), nI_i]
  congr 1
  omega
def fr (p : Nat) (dy dx : Int) : Nat := 8 * ed (((p / 8 : Nat) : Int) + dy) + ed (((p % 8 : Nat) : Int) + dx)
theorem fr_lt (p : Nat) (dy dx : Int) : fr p dy dx < 64 := by
  have h1 := ed_lt (((p / 8 : Nat) : Int) + dy)
  have h2 := ed_lt (((p % 8 : Nat) : Int) + dx)
  unfold fr
  omega
/-- sums of Int32 from the left -/
def sI (f : Nat → Int32) : Nat → Int32
  | 0 => 0
  | k + 1 => sI f k + f k
/-- the distance of a block by a move -/
def DT (d t : Nat → Int32) (b m k : Nat) : Int32 := ab (d (px b k) - t (fr (px b k) (mdn m) (mrt m)))
def DIST (d t : Nat → Int32) (b m : Nat) : Int32 := sI (DT d t b m) 16
