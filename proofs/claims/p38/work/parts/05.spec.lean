/-! ===== the words of the class's and the reference's numbers ===== -/
def px (b i : Nat) : Nat := 8 * (4 * (b / 2) + i / 4) + (4 * (b % 2) + i % 4)
theorem px_lt {b i : Nat} (hb : b < 4) (hi : i < 16) : px b i < 64 := by unfold px; omega
def mdn (m : Nat) : Int := ((m / 5 : Nat) : Int) - 2
def mrt (m : Nat) : Int := ((m % 5 : Nat) : Int) - 2
theorem mdn_in {m : Nat} (h : m < 25) : -2 ≤ mdn m ∧ mdn m ≤ 2 := by unfold mdn; omega
theorem mrt_in (m : Nat) : -2 ≤ mrt m ∧ mrt m ≤ 2 := by unfold mrt; omega
def ed (x : Int) : Nat := if x < 0 then 0 else if 8 ≤ x then 7 else x.toNat
theorem ed_lt (x : Int) : ed x < 8 := by unfold ed; split <;> first | omega | (split <;> omega)
theorem ed_lo {x : Int} (h : x < 0) : nI 0 = nI (ed x) := by unfold ed; rw [if_pos h]
theorem ed_hi {x : Int} (h : 8 ≤ x) : nI 7 = nI (ed x) := by unfold ed; rw [if_neg (by omega), if_pos h]
theorem ed_mid {x : Int} (h0 : 0 ≤ x) (h : x < 8) : iI x = nI (ed x) := by
  unfold ed
  rw [if_neg (by omega), if_neg (by omega), nI_i]
  congr 1
  omega
def fr (p : Nat) (dy dx : Int) : Nat := 8 * ed (((p / 8 : Nat) : Int) + dy) + ed (((p % 8 : Nat) : Int) + dx)
theorem fr_lt (p : Nat) (dy dx : Int) : fr p dy dx < 64 := by
  have h1 := ed_lt (((p / 8 : Nat) : Int) + dy)
  have h2 := ed_lt (((p % 8 : Nat) : Int) + dx)
  unfold fr
  omega
/-- a picture's values -/
def R15 (d : Nat → Int) : Prop := ∀ p, 0 ≤ d p ∧ d p ≤ 15
theorem R15_up {d : Nat → Int} (h : R15 d) (k : Nat) {v : Int} (h0 : 0 ≤ v) (h1 : v ≤ 15) : R15 (va_up d k v) := by
  intro p
  by_cases hp : p = k
  · simp [va_up, hp]; exact ⟨h0, h1⟩
  · simp [va_up, hp]; exact h p
/-- sums from the left -/
def sZ (f : Nat → Int) : Nat → Int
  | 0 => 0
  | k + 1 => sZ f k + f k
theorem sZ_in {f : Nat → Int} {M : Int} (h : ∀ k, 0 ≤ f k ∧ f k ≤ M) : ∀ k : Nat, 0 ≤ sZ f k ∧ sZ f k ≤ M * k
  | 0 => ⟨Int.le_refl 0, by simp [sZ]⟩
  | k + 1 => by
    have h1 := sZ_in h k
    have h2 := h k
    have e : sZ f (k + 1) = sZ f k + f k := rfl
    have e2 : M * ((k + 1 : Nat) : Int) = M * (k : Int) + M := by rw [Int.natCast_succ, Int.mul_add, Int.mul_one]
    rw [e, e2]
    omega
/-- the distance of a block by a move -/
def DT (d t : Nat → Int) (b m k : Nat) : Int := ((d (px b k) - t (fr (px b k) (mdn m) (mrt m))).natAbs : Int)
def DIST (d t : Nat → Int) (b m : Nat) : Int := sZ (DT d t b m) 16
theorem DT_in {d t : Nat → Int} (hd : R15 d) (ht : R15 t) (b m k : Nat) : 0 ≤ DT d t b m k ∧ DT d t b m k ≤ 15 := by
  have h1 := hd (px b k)
  have h2 := ht (fr (px b k) (mdn m) (mrt m))
  unfold DT
  omega
theorem DS_in {d t : Nat → Int} (hd : R15 d) (ht : R15 t) (b m : Nat) {k : Nat} (hk : k ≤ 16) : 0 ≤ sZ (DT d t b m) k ∧ sZ (DT d t b m) k ≤ 240 := by
  have h := sZ_in (DT_in hd ht b m) k
  omega
theorem DIST_in {d t : Nat → Int} (hd : R15 d) (ht : R15 t) (b m : Nat) : 0 ≤ DIST d t b m ∧ DIST d t b m ≤ 240 := DS_in hd ht b m (Nat.le_refl 16)
def lenM (m : Nat) : Nat := (mdn m).natAbs + (mrt m).natAbs
/-- the best of the moves 0 .. k -/
def bst (D : Nat → Int) : Nat → Nat
  | 0 => 0
  | k + 1 => if D (k + 1) < D (bst D k) ∨ (D (k + 1) = D (bst D k) ∧ lenM (k + 1) < lenM (bst D k)) then k + 1 else bst D k
theorem bst_le (D : Nat → Int) : ∀ k, bst D k ≤ k
  | 0 => Nat.le_refl 0
  | k + 1 => by
    have h := bst_le D k
    unfold bst
    split <;> omega
theorem bst_y {D : Nat → Int} {k : Nat} (h : D (k + 1) < D (bst D k) ∨ (D (k + 1) = D (bst D k) ∧ lenM (k + 1) < lenM (bst D k))) : bst D (k + 1) = k + 1 := if_pos h
theorem bst_n {D : Nat → Int} {k : Nat} (h : ¬ (D (k + 1) < D (bst D k) ∨ (D (k + 1) = D (bst D k) ∧ lenM (k + 1) < lenM (bst D k)))) : bst D (k + 1) = bst D k := if_neg h
def BEST (d t : Nat → Int) (b : Nat) : Nat := bst (DIST d t b) 24
theorem BEST_lt (d t : Nat → Int) (b : Nat) : BEST d t b < 25 := Nat.lt_succ_of_le (bst_le _ _)
/-- the sum, stopped where it isn't less than the limit -/
def utI (F : Nat → Int) (lim : Int) : Nat → Nat → Int
  | 0, i => sZ F i
  | n + 1, i => if sZ F i < lim then utI F lim n (i + 1) else sZ F i
theorem utI_s {F : Nat → Int} {lim : Int} {i : Nat} (hi : i < 16) (h : sZ F i < lim) : utI F lim (16 - i) i = utI F lim (16 - (i + 1)) (i + 1) := by
  have e : 16 - i = (16 - (i + 1)) + 1 := by omega
  rw [e]
  exact if_pos h
theorem utI_x {F : Nat → Int} {lim : Int} {i : Nat} (h : ¬ sZ F i < lim) : utI F lim (16 - i) i = sZ F i := by
  cases e : 16 - i with
  | zero => rfl
  | succ n => exact if_neg h
theorem utI_e {F : Nat → Int} {lim : Int} {i : Nat} (h : 16 ≤ i) : utI F lim (16 - i) i = sZ F i := by
  have e : 16 - i = 0 := by omega
  rw [e]; rfl
/-- the best, going by the table, stopping -/
def bsS (d t : Nat → Int) (b : Nat) : Nat → Nat × Int
  | 0 => (12, 241)
  | k + 1 => if utI (DT d t b (shortN k)) (bsS d t b k).2 16 0 < (bsS d t b k).2 then (shortN k, utI (DT d t b (shortN k)) (bsS d t b k).2 16 0) else bsS d t b k
/-- how many have the least, so far -/
def cnt (D : Nat → Int) : Nat → Nat × Int
  | 0 => (0, 241)
  | k + 1 => if D k < (cnt D k).2 then (1, D k) else if D k = (cnt D k).2 then ((cnt D k).1 + 1, (cnt D k).2) else cnt D k
theorem utI_in {d t : Nat → Int} (hd : R15 d) (ht : R15 t) (b m : Nat) (lim : Int) : ∀ n i, i + n ≤ 16 → 0 ≤ utI (DT d t b m) lim n i ∧ utI (DT d t b m) lim n i ≤ 240
  | 0, i, h => DS_in hd ht b m h
  | n + 1, i, h => by
    unfold utI
    split
    · exact utI_in hd ht b m lim n (i + 1) (by omega)
    · exact DS_in hd ht b m (by omega)
theorem bsS_in {d t : Nat → Int} (hd : R15 d) (ht : R15 t) (b : Nat) : ∀ k, k ≤ 25 → (bsS d t b k).1 < 25 ∧ 0 ≤ (bsS d t b k).2 ∧ (bsS d t b k).2 ≤ 241
  | 0, _ => by show 12 < 25 ∧ (0 : Int) ≤ 241 ∧ (241 : Int) ≤ 241; decide
  | k + 1, h => by
    have h1 := bsS_in hd ht b k (by omega)
    have h2 := utI_in hd ht b (shortN k) (bsS d t b k).2 16 0 (by omega)
    have h3 := shortN_lt (k := k) (by omega)
    unfold bsS
    split
    · exact ⟨h3, h2.1, by omega⟩
    · exact h1
theorem bsS_y {d t : Nat → Int} {b k : Nat} (h : utI (DT d t b (shortN k)) (bsS d t b k).2 16 0 < (bsS d t b k).2) : bsS d t b (k + 1) = (shortN k, utI (DT d t b (shortN k)) (bsS d t b k).2 16 0) := if_pos h
theorem bsS_n {d t : Nat → Int} {b k : Nat} (h : ¬ utI (DT d t b (shortN k)) (bsS d t b k).2 16 0 < (bsS d t b k).2) : bsS d t b (k + 1) = bsS d t b k := if_neg h
theorem cnt_in {D : Nat → Int} (h : ∀ m, 0 ≤ D m ∧ D m ≤ 240) : ∀ k, (cnt D k).1 ≤ k ∧ 0 ≤ (cnt D k).2 ∧ (cnt D k).2 ≤ 241
  | 0 => by simp [cnt]
  | k + 1 => by
    have h1 := cnt_in h k
    have h2 := h k
    unfold cnt
    split
    · exact ⟨by simp, h2.1, by show D k ≤ 241; omega⟩
    · split
      · exact ⟨by show (cnt D k).1 + 1 ≤ k + 1; omega, h1.2⟩
      · exact ⟨by omega, h1.2⟩
theorem cnt_y {D : Nat → Int} {k : Nat} (h : D k < (cnt D k).2) : cnt D (k + 1) = (1, D k) := if_pos h
theorem cnt_e {D : Nat → Int} {k : Nat} (h : ¬ D k < (cnt D k).2) (h2 : D k = (cnt D k).2) : cnt D (k + 1) = ((cnt D k).1 + 1, (cnt D k).2) := (if_neg h).trans (if_pos h2)
theorem cnt_n {D : Nat → Int} {k : Nat} (h : ¬ D k < (cnt D k).2) (h2 : ¬ D k = (cnt D k).2) : cnt D (k + 1) = cnt D k := (if_neg h).trans (if_neg h2)
/-- a pixel put; the count of those that get another value -/
def rput (v : Int) (p : Nat) (x : (Nat → Int) × Nat) : (Nat → Int) × Nat := (va_up x.1 p v, x.2 + if x.1 p = v then 0 else 1)
theorem rput_t {v : Int} {p : Nat} {x : (Nat → Int) × Nat} (h : x.1 p = v) : x.2 + 0 = (rput v p x).2 := by unfold rput; rw [if_pos h]
theorem rput_f {v : Int} {p : Nat} {x : (Nat → Int) × Nat} (h : ¬ x.1 p = v) : x.2 + 1 = (rput v p x).2 := by unfold rput; rw [if_neg h]
def rcol (v : Int) (r c0 : Nat) (x : (Nat → Int) × Nat) : Nat → (Nat → Int) × Nat
  | 0 => x
  | k + 1 => rput v (8 * r + (c0 + k)) (rcol v r c0 x k)
def rrow (v : Int) (r0 c0 w : Nat) (x : (Nat → Int) × Nat) : Nat → (Nat → Int) × Nat
  | 0 => x
  | k + 1 => rcol v (r0 + k) c0 (rrow v r0 c0 w x k) w
def fillS (f : Nat → Int) (p h w : Nat) (v : Int) : (Nat → Int) × Nat := rrow v (p / 8) (p % 8) (min w (8 - p % 8)) (f, 0) (min h (8 - p / 8))
def tkm (g : Nat → Int) (dy dx : Int) (f : Nat → Int) : Nat → (Nat → Int) × Nat
  | 0 => (f, 0)
  | k + 1 => rput (g (fr k dy dx)) k (tkm g dy dx f k)
theorem rput_le {v : Int} {p n : Nat} {x : (Nat → Int) × Nat} (h : x.2 ≤ n) : (rput v p x).2 ≤ n + 1 := by unfold rput; show x.2 + _ ≤ _; split <;> omega
theorem rcol_le {v : Int} {r c0 n : Nat} {x : (Nat → Int) × Nat} (h : x.2 ≤ n) : ∀ k, (rcol v r c0 x k).2 ≤ n + k
  | 0 => h
  | k + 1 => rput_le (rcol_le h k)
theorem rrow_le {v : Int} {r0 c0 w n : Nat} {x : (Nat → Int) × Nat} (hw : w ≤ 8) (h : x.2 ≤ n) : ∀ k, (rrow v r0 c0 w x k).2 ≤ n + 8 * k
  | 0 => h
  | k + 1 => by
    have h1 := rcol_le (v := v) (r := r0 + k) (c0 := c0) (rrow_le (v := v) (r0 := r0) (c0 := c0) hw h k) w
    show (rcol v (r0 + k) c0 (rrow v r0 c0 w x k) w).2 ≤ _
    omega
theorem tkm_le {g : Nat → Int} {dy dx : Int} {f : Nat → Int} : ∀ k, (tkm g dy dx f k).2 ≤ k
  | 0 => Nat.le_refl 0
  | k + 1 => rput_le (tkm_le k)
theorem rput_R {v : Int} {p : Nat} {x : (Nat → Int) × Nat} (h : R15 x.1) (hv : 0 ≤ v ∧ v ≤ 15) : R15 (rput v p x).1 := R15_up h p hv.1 hv.2
theorem rcol_R {v : Int} {r c0 : Nat} {x : (Nat → Int) × Nat} (h : R15 x.1) (hv : 0 ≤ v ∧ v ≤ 15) : ∀ k, R15 (rcol v r c0 x k).1
  | 0 => h
  | k + 1 => rput_R (rcol_R h hv k) hv
theorem rrow_R {v : Int} {r0 c0 w : Nat} {x : (Nat → Int) × Nat} (h : R15 x.1) (hv : 0 ≤ v ∧ v ≤ 15) : ∀ k, R15 (rrow v r0 c0 w x k).1
  | 0 => h
  | k + 1 => rcol_R (rrow_R h hv k) hv w
theorem tkm_R {g : Nat → Int} {dy dx : Int} {f : Nat → Int} (hg : R15 g) (h : R15 f) : ∀ k, R15 (tkm g dy dx f k).1
  | 0 => h
  | k + 1 => rput_R (tkm_R hg h k) (hg _)
theorem min_at {j a b : Nat} (h1 : j ≤ a) (h2 : j ≤ b) (h3 : a ≤ j ∨ b ≤ j) : j = min a b := by rw [Nat.min_def]; split <;> omega
theorem lenM_le {m : Nat} (h : m < 25) : lenM m ≤ 4 := by have := mdn_in h; have := mrt_in m; unfold lenM; omega
