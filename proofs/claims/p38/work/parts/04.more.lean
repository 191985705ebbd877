theorem lvc {i : Nat} {v v' : Value} {l l' : List (Nat × Value)} (h : v = v') (t : l = l') : (i, v) :: l = (i, v') :: l' := by subst h; subst t; rfl
theorem upz_Z (f : Nat → Int) (k : Nat) (v : Int) : upd (fun j => iI (f j)) k (iI v) = fun j => iI (va_up f k v j) := by
  funext j; by_cases h : j = k <;> simp [upd, va_up, h]
theorem upz_N (f : Nat → Int) (k : Nat) (v : Nat) : upd (fun j => iI (f j)) k (nI v) = fun j => iI (va_up f k (v : Int) j) := by
  rw [nI_i]; exact upz_Z f k v
theorem upn_N (f : Nat → Nat) (k : Nat) (v : Nat) : upd (fun j => nI (f j)) k (nI v) = fun j => nI (va_up f k v j) := by
  funext j; by_cases h : j = k <;> simp [upd, va_up, h]
theorem iI_neg (a : Int) : (0 : Int32) - iI a = iI (-a) := by
  have : (0 : Int32) = iI 0 := rfl
  rw [this, iI_sub]; congr 1; omega
theorem ab_z {a : Int} (h1 : -2147483648 ≤ a) (h2 : a < 2147483648) : (if 0 ≤ iI a then iI a else 0 - iI a) = iI (Int.natAbs a : Int) := by
  by_cases h : 0 ≤ a
  · rw [if_pos ((c_le (x := 0) (a := 0) rfl (iI_toInt h1 h2)).mpr h)]; congr 1; omega
  · rw [if_neg (fun z => h ((c_le (x := 0) (a := 0) rfl (iI_toInt h1 h2)).mp z)), iI_neg]; congr 1; omega
theorem min_n {a b : Nat} (ha : a < 2147483648) (hb : b < 2147483648) : (if nI b < nI a then nI b else nI a) = nI (min a b) := by
  by_cases h : b < a
  · rw [if_pos ((nI_ltI hb ha).mpr h)]; congr 1; omega
  · rw [if_neg (fun z => h ((nI_ltI hb ha).mp z))]; congr 1; omega
theorem min_z {x y : Int32} {a b : Int} (hx : x = iI a) (hy : y = iI b) (h1 : -2147483648 ≤ a) (h2 : a < 2147483648) (h3 : -2147483648 ≤ b) (h4 : b < 2147483648) : (if y < x then y else x) = iI (min a b) := by
  subst hx; subst hy
  by_cases h : b < a
  · rw [if_pos ((c_lt (iI_toInt h3 h4) (iI_toInt h1 h2)).mpr h)]; congr 1; omega
  · rw [if_neg (fun z => h ((c_lt (iI_toInt h3 h4) (iI_toInt h1 h2)).mp z))]; congr 1; omega
theorem max_z {x y : Int32} {a b : Int} (hx : x = iI a) (hy : y = iI b) (h1 : -2147483648 ≤ a) (h2 : a < 2147483648) (h3 : -2147483648 ≤ b) (h4 : b < 2147483648) : (if x < y then y else x) = iI (max a b) := by
  subst hx; subst hy
  by_cases h : a < b
  · rw [if_pos ((c_lt (iI_toInt h1 h2) (iI_toInt h3 h4)).mpr h)]; congr 1; omega
  · rw [if_neg (fun z => h ((c_lt (iI_toInt h1 h2) (iI_toInt h3 h4)).mp z))]; congr 1; omega
def shortN : Nat → Nat := fun j => ([12, 7, 11, 13, 17, 2, 6, 8, 10, 14, 16, 18, 22, 1, 3, 5, 9, 15, 19, 21, 23, 0, 4, 20, 24] : List Nat).getD j 0
theorem shortN_lt0 : ∀ k, k < 25 → shortN k < 25 := by decide +kernel
theorem shortN_lt {k : Nat} (h : k < 25) : shortN k < 25 := shortN_lt0 k h
theorem short_c : ∀ k, k < 25 → shortF k = nI (shortN k) := by decide +kernel
theorem short_v {k : Nat} (h : k < 25) : Value.int (shortF ((nI k).toNatClampNeg)) = .int (nI (shortN k)) := by rw [nI_clamp (by omega), short_c k h]
