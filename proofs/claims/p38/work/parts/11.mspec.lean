/-! ===== the reference's numbers ===== -/
def dS (s : Nat → Int) : Nat → Int := fun j => s (j % 64)
def tS (s : Nat → Int) : Nat → Int := fun j => s (64 + j % 64)
def rS (s : Nat → Int) : Nat → Int := fun j => s (128 + j % 64)
theorem dS_at {s : Nat → Int} {p : Nat} (h : p < 64) : s p = dS s p := by unfold dS; rw [Nat.mod_eq_of_lt h]
theorem tS_at {s : Nat → Int} {p : Nat} (h : p < 64) : s (64 + p) = tS s p := by unfold tS; rw [Nat.mod_eq_of_lt h]
theorem rS_at {s : Nat → Int} {p : Nat} (h : p < 64) : s (128 + p) = rS s p := by unfold rS; rw [Nat.mod_eq_of_lt h]
/-- what the reference's row of numbers always keeps -/
def MR (s : Nat → Int) : Prop := (∀ j, j < 192 → 0 ≤ s j ∧ s j ≤ 15) ∧ (4 ≤ s 192 ∧ s 192 ≤ 300) ∧ (1 ≤ s 193 ∧ s 193 ≤ 20) ∧ (0 ≤ s 194 ∧ s 194 ≤ 999) ∧ (0 ≤ s 195 ∧ s 195 ≤ s 194) ∧ (0 ≤ s 196 ∧ s 196 ≤ 264 * s 194)
theorem MR_d {s : Nat → Int} (h : MR s) : R15 (dS s) := fun p => h.1 (p % 64) (by omega)
theorem MR_t {s : Nat → Int} (h : MR s) : R15 (tS s) := fun p => h.1 (64 + p % 64) (by omega)
theorem MR_g {s : Nat → Int} (h : MR s) : R15 (rS s) := fun p => h.1 (128 + p % 64) (by omega)
theorem iI_ng (a : Int) : -iI a = iI (-a) := by
  have h : -iI a = 0 - iI a := by rw [Int32.zero_sub]
  rw [h]; exact iI_neg a
def DFm (d t : Nat → Int) (b m k : Nat) : Int := d (px b k) - t (fr (px b k) (mdn m) (mrt m))
theorem DFm_in {d t : Nat → Int} (hd : R15 d) (ht : R15 t) (b m k : Nat) : -15 ≤ DFm d t b m k ∧ DFm d t b m k ≤ 15 := by
  have h1 := hd (px b k)
  have h2 := ht (fr (px b k) (mdn m) (mrt m))
  unfold DFm; omega
def LM (d t : Nat → Int) (b m q : Nat) (n : Nat) : Nat := sN (fun j => lbits (lv (DFm d t b m j) q)) n
theorem LM_in {d t : Nat → Int} (hd : R15 d) (ht : R15 t) (b m : Nat) {q : Nat} (hq : 1 ≤ q) : ∀ i, i ≤ LM d t b m q i ∧ LM d t b m q i ≤ 10 * i
  | 0 => by simp [LM, sN]
  | i + 1 => by
    have h1 := LM_in hd ht b m hq i
    have h2 := lbits_in (lv_in (DFm_in hd ht b m i) hq)
    have e : LM d t b m q (i + 1) = LM d t b m q i + lbits (lv (DFm d t b m i) q) := rfl
    omega
def ZM (d t : Nat → Int) (b m q i : Nat) : Prop := ∀ j, j < i → lv (DFm d t b m j) q = 0
theorem ZM_0 (d t : Nat → Int) (b m q : Nat) : ZM d t b m q 0 := fun j h => absurd h (Nat.not_lt_zero j)
theorem ZM_s {d t : Nat → Int} {b m q i : Nat} (h : ZM d t b m q i) (h2 : lv (DFm d t b m i) q = 0) : ZM d t b m q (i + 1) := fun j hj => by
  rcases Nat.lt_succ_iff_lt_or_eq.mp hj with h3 | h3
  · exact h j h3
  · subst h3; exact h2
theorem ZM_d {d t : Nat → Int} {b m q i : Nat} (h : ZM d t b m q (i + 1)) : ZM d t b m q i := fun j hj => h j (Nat.lt_succ_of_lt hj)
theorem ZM_LM {d t : Nat → Int} (hd : R15 d) (ht : R15 t) {b m q : Nat} (hq : 1 ≤ q) : ∀ i, ZM d t b m q i ↔ LM d t b m q i = i
  | 0 => ⟨fun _ => rfl, fun _ => ZM_0 d t b m q⟩
  | i + 1 => by
    have h1 := ZM_LM hd ht (b := b) (m := m) hq i
    have h2 := lbits_in (lv_in (DFm_in hd ht b m i) hq)
    have h3 := LM_in hd ht b m hq i
    have e : LM d t b m q (i + 1) = LM d t b m q i + lbits (lv (DFm d t b m i) q) := rfl
    constructor
    · intro z
      have z1 := h1.mp (ZM_d z)
      have z2 := lbits_1.mpr (z i (Nat.lt_succ_self i))
      omega
    · intro z
      exact ZM_s (h1.mpr (by omega)) (lbits_1.mp (by omega))
/-- how a block would be sent, and its bits -/
def KDM (d t : Nat → Int) (b q : Nat) : Nat := kdW (BEST d t b) (LM d t b (BEST d t b) q 16)
def BTM (d t : Nat → Int) (b q : Nat) : Nat := btW (BEST d t b) (LM d t b (BEST d t b) q 16)
def ABM (d t : Nat → Int) (q : Nat) (n : Nat) : Nat := sN (fun b => BTM d t b q) n
theorem ABM_le (d t : Nat → Int) (q n : Nat) : ABM d t q n ≤ 66 * n := sN_le (fun k => btW_le _ _) n
def COM (d t : Nat → Int) (bu : Nat) : Nat := COA (fun q => ABM d t q 4) bu
/-- the history's shift, and the row put behind -/
def shH (hi : Nat → Int) : Nat → Nat → Int
  | 0 => hi
  | k + 1 => va_up (shH hi k) k (shH hi k (k + 205))
def cpH (hi s : Nat → Int) (base : Nat) : Nat → Nat → Int
  | 0 => hi
  | k + 1 => va_up (cpH hi s base k) (base + k) (s k)
def recH (hi s : Nat → Int) (kn : Nat) : Nat → Int := if kn = 6 then cpH (shH hi 1025) s 1025 205 else cpH hi s (205 * kn) 205
def neS (ne s : Nat → Int) (dy dx : Int) : Nat → Nat → Int
  | 0 => ne
  | k + 1 => va_up (neS ne s dy dx k) k (s (fr k dy dx))
theorem neS_at {ne s : Nat → Int} {dy dx : Int} : ∀ {n k : Nat}, k < n → neS ne s dy dx n k = s (fr k dy dx)
  | 0, _, h => absurd h (Nat.not_lt_zero _)
  | n + 1, k, h => by
    show va_up _ _ _ k = _
    by_cases e : k = n
    · subst e; simp [va_up]
    · simp [va_up, e]; exact neS_at (by omega)
theorem rput_t1 {v : Int} {p : Nat} {x : (Nat → Int) × Nat} (h : ¬ x.1 p = v) : x.2 + 1 = (rput v p x).2 := rput_f h
theorem ZM_mono {d t : Nat → Int} {b m q i j : Nat} (h : ZM d t b m q j) (hi : i ≤ j) : ZM d t b m q i := fun k hk => h k (by omega)
theorem kdM_s {d t : Nat → Int} {b q i : Nat} (hz : ZM d t b (BEST d t b) q 16 ↔ LM d t b (BEST d t b) q 16 = 16) (h1 : 16 ≤ i) (h2 : i ≤ 16) (f : BEST d t b = 12 ∧ ZM d t b (BEST d t b) q i) : 1 = KDM d t b q := by
  have e : i = 16 := by omega
  subst e
  have := hz.mp f.2
  unfold KDM kdW; rw [if_pos ⟨f.1, this⟩]
theorem kdM_m {d t : Nat → Int} {b q i : Nat} (hz : ZM d t b (BEST d t b) q 16 ↔ LM d t b (BEST d t b) q 16 = 16) (h2 : i ≤ 16) (f : ¬ (BEST d t b = 12 ∧ ZM d t b (BEST d t b) q i)) (h : 6 + LM d t b (BEST d t b) q 16 ≤ 66) : 2 = KDM d t b q := by
  unfold KDM kdW; rw [if_neg (fun z => f ⟨z.1, ZM_mono (hz.mpr z.2) h2⟩), if_pos h]
theorem kdM_r {d t : Nat → Int} {b q i : Nat} (hz : ZM d t b (BEST d t b) q 16 ↔ LM d t b (BEST d t b) q 16 = 16) (h2 : i ≤ 16) (f : ¬ (BEST d t b = 12 ∧ ZM d t b (BEST d t b) q i)) (h : ¬ 6 + LM d t b (BEST d t b) q 16 ≤ 66) : 0 = KDM d t b q := by
  unfold KDM kdW; rw [if_neg (fun z => f ⟨z.1, ZM_mono (hz.mpr z.2) h2⟩), if_neg h]
theorem btM_1 {d t : Nat → Int} {b q : Nat} (h : KDM d t b q = 1) : 1 = BTM d t b q := by
  unfold KDM kdW at h; unfold BTM btW
  split at h
  · rw [if_pos (by assumption)]
  · split at h <;> omega
theorem btM_0 {d t : Nat → Int} {b q : Nat} (h : KDM d t b q = 0) : 66 = BTM d t b q := by
  unfold KDM kdW at h; unfold BTM btW
  split at h
  · omega
  · split at h
    · omega
    · rw [if_neg (by assumption), if_neg (by assumption)]
theorem btM_2 {d t : Nat → Int} {b q : Nat} (h : ¬ KDM d t b q = 1) (h2 : ¬ KDM d t b q = 0) : 6 + LM d t b (BEST d t b) q 16 = BTM d t b q := by
  unfold KDM kdW at h h2; unfold BTM btW
  split at h
  · omega
  · rw [if_neg (by assumption)] at h2
    split at h2
    · rw [if_neg (by assumption), if_pos (by assumption)]
    · omega
theorem KDM_le (d t : Nat → Int) (b q : Nat) : KDM d t b q ≤ 2 := by unfold KDM kdW; split <;> first | omega | (split <;> omega)
theorem tkm_M {s : Nat → Int} (h : MR s) (dy dx : Int) : ∀ k j, j < 192 → 0 ≤ (tkm s dy dx s k).1 j ∧ (tkm s dy dx s k).1 j ≤ 15
  | 0, j, hj => h.1 j hj
  | k + 1, j, hj => by
    show 0 ≤ va_up (tkm s dy dx s k).1 k (s (fr k dy dx)) j ∧ va_up (tkm s dy dx s k).1 k (s (fr k dy dx)) j ≤ 15
    have hf := fr_lt k dy dx
    by_cases e : j = k
    · subst e; simp [va_up]; exact h.1 _ (by omega)
    · simp [va_up, e]; exact tkm_M h dy dx k j hj
theorem recH_6 {hi s : Nat → Int} {kn : Nat} (h : kn = 6) : recH hi s kn = cpH (shH hi 1025) s (205 * (kn - 1)) 205 := by subst h; unfold recH; rw [if_pos rfl]
theorem recH_n {hi s : Nat → Int} {kn : Nat} (h : ¬ kn = 6) : recH hi s kn = cpH hi s (205 * kn) 205 := if_neg h
