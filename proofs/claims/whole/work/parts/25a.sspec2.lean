/-! ===== the reference's sending, in numbers ===== -/
def kmS (kd mv : Nat → Nat) (s : Nat → Int) : Nat → Nat → Int
  | 0 => s
  | n + 1 => va_up (va_up (kmS kd mv s n) (197 + n) ((kd n + 1 : Nat) : Int)) (201 + n) (if kd n = 0 then -1 else ((mv n : Nat) : Int))
theorem kmS_lt (kd mv : Nat → Nat) (s : Nat → Int) {j : Nat} (hj : j < 197) : ∀ n, kmS kd mv s n j = s j
  | 0 => rfl
  | n + 1 => by
    have h1 : ¬ j = 197 + n := by omega
    have h2 : ¬ j = 201 + n := by omega
    show va_up _ _ _ j = _
    simp only [va_up, h1, h2, if_false]
    exact kmS_lt kd mv s hj n
theorem kmS_k (kd mv : Nat → Nat) (s : Nat → Int) {b : Nat} : ∀ n, b < n → n ≤ 4 → kmS kd mv s n (197 + b) = ((kd b + 1 : Nat) : Int)
  | 0, h, _ => absurd h (Nat.not_lt_zero b)
  | n + 1, h, h4 => by
    have h2 : ¬ 197 + b = 201 + n := by omega
    show va_up _ _ _ (197 + b) = _
    simp only [va_up, h2, if_false]
    by_cases e : b = n
    · subst e; rw [if_pos rfl]
    · rw [if_neg (by omega)]; exact kmS_k kd mv s n (by omega) (by omega)
theorem kmS_m (kd mv : Nat → Nat) (s : Nat → Int) {b : Nat} : ∀ n, b < n → n ≤ 4 → kmS kd mv s n (201 + b) = if kd b = 0 then -1 else ((mv b : Nat) : Int)
  | 0, h, _ => absurd h (Nat.not_lt_zero b)
  | n + 1, h, h4 => by
    show va_up _ _ _ (201 + b) = _
    by_cases e : b = n
    · subst e; simp only [va_up, if_true]
    · have h1 : ¬ 201 + b = 201 + n := by omega
      have h2 : ¬ 201 + b = 197 + n := by omega
      simp only [va_up, h1, h2, if_false]; exact kmS_m kd mv s n (by omega) (by omega)
theorem kmS_hi (kd mv : Nat → Nat) (s : Nat → Int) {j : Nat} (hj : 205 ≤ j) : ∀ n, n ≤ 4 → kmS kd mv s n j = s j
  | 0, _ => rfl
  | n + 1, h => by
    have h1 : ¬ j = 197 + n := by omega
    have h2 : ¬ j = 201 + n := by omega
    show va_up _ _ _ j = _
    simp only [va_up, h1, h2, if_false]
    exact kmS_hi kd mv s hj n (by omega)
theorem dS_km (kd mv : Nat → Nat) (s : Nat → Int) (n : Nat) : dS (kmS kd mv s n) = dS s := funext fun j => kmS_lt kd mv s (by omega) n
theorem tS_km (kd mv : Nat → Nat) (s : Nat → Int) (n : Nat) : tS (kmS kd mv s n) = tS s := funext fun j => kmS_lt kd mv s (by omega) n
theorem rS_km (kd mv : Nat → Nat) (s : Nat → Int) (n : Nat) : rS (kmS kd mv s n) = rS s := funext fun j => kmS_lt kd mv s (by omega) n
theorem MR_km {s : Nat → Int} (h : MR s) (kd mv : Nat → Nat) (n : Nat) : MR (kmS kd mv s n) := by
  obtain ⟨h1, h2, h3, h4, h5, h6⟩ := h
  refine ⟨fun j hj => ?_, ?_, ?_, ?_, ?_, ?_⟩
  · rw [kmS_lt kd mv s (by omega) n]; exact h1 j hj
  · rw [kmS_lt kd mv s (by omega) n]; exact h2
  · rw [kmS_lt kd mv s (by omega) n]; exact h3
  · rw [kmS_lt kd mv s (by omega) n]; exact h4
  · rw [kmS_lt kd mv s (by omega) n, kmS_lt kd mv s (by omega) n]; exact h5
  · rw [kmS_lt kd mv s (by omega) n, kmS_lt kd mv s (by omega) n]; exact h6
def nxS (f1 f2 : Nat → Int) (ne : Nat → Int) (b : Nat) : Nat → Nat → Int
  | 0 => ne
  | i + 1 => va_up (va_up (nxS f1 f2 ne b i) (px b i) (f1 (px b i))) (64 + px b i) (f2 (px b i))
def nxP (f1 f2 : Nat → Int) (ne : Nat → Int) : Nat → Nat → Int
  | 0 => ne
  | n + 1 => nxS f1 f2 (nxP f1 f2 ne n) n 16
theorem nxS_1 {f1 f2 ne : Nat → Int} {b p : Nat} (hp : p < 64) : ∀ i, nxS f1 f2 ne b i p = snS f1 ne b i p
  | 0 => rfl
  | i + 1 => by
    have h2 : ¬ p = 64 + px b i := by omega
    show va_up _ _ _ p = va_up _ _ _ p
    simp only [va_up, h2, if_false]
    rw [nxS_1 hp i]
theorem nxS_2 {f1 f2 ne : Nat → Int} {b p : Nat} (hb : b < 4) : ∀ i, i ≤ 16 → nxS f1 f2 ne b i (64 + p) = snS f2 (fun z => ne (64 + z)) b i p
  | 0, _ => rfl
  | i + 1, hi => by
    have hpx := px_lt hb (show i < 16 by omega)
    have h1 : ¬ 64 + p = px b i := by omega
    have e : (64 + p = 64 + px b i) = (p = px b i) := propext ⟨fun z => by omega, fun z => by omega⟩
    show va_up _ _ _ (64 + p) = va_up _ _ _ p
    simp only [va_up, h1, if_false, e]
    rw [nxS_2 hb i (by omega)]
theorem nxP_1 {f1 f2 ne : Nat → Int} {p : Nat} (hp : p < 64) : ∀ n, n ≤ 4 → nxP f1 f2 ne n p = sdP (fun _ => f1) ne n p
  | 0, _ => rfl
  | n + 1, hn => by
    show nxS f1 f2 (nxP f1 f2 ne n) n 16 p = snS f1 (sdP (fun _ => f1) ne n) n 16 p
    rw [nxS_1 hp, snS_16 (by omega) hp, snS_16 (by omega) hp, nxP_1 hp n (by omega)]
theorem nxP_2 {f1 f2 ne : Nat → Int} {p : Nat} (hp : p < 64) : ∀ n, n ≤ 4 → nxP f1 f2 ne n (64 + p) = sdP (fun _ => f2) (fun z => ne (64 + z)) n p
  | 0, _ => rfl
  | n + 1, hn => by
    show nxS f1 f2 (nxP f1 f2 ne n) n 16 (64 + p) = snS f2 (sdP (fun _ => f2) (fun z => ne (64 + z)) n) n 16 p
    rw [nxS_2 (by omega) 16 (Nat.le_refl 16), snS_16 (by omega) hp, snS_16 (by omega) hp, nxP_2 hp n (by omega)]
theorem nxP_a {f1 f2 ne : Nat → Int} {p : Nat} (hp : p < 64) : nxP f1 f2 ne 4 p = f1 p := by rw [nxP_1 hp 4 (Nat.le_refl 4), sdP_4 hp]
theorem nxP_b {f1 f2 ne : Nat → Int} {p : Nat} (hp : p < 64) : nxP f1 f2 ne 4 (64 + p) = f2 p := by rw [nxP_2 hp 4 (Nat.le_refl 4), sdP_4 hp]
/-- the rows taken over: received, lost -/
def fn0 (ne s : Nat → Int) : Nat → Nat → Int
  | 0 => s
  | n + 1 => va_up (va_up (fn0 ne s n) (64 + n) (ne n)) (128 + n) (ne (64 + n))
def fn1 (ne s : Nat → Int) : Nat → Nat → Int
  | 0 => s
  | n + 1 => va_up (va_up (fn1 ne s n) (64 + n) (ne n)) (128 + n) (va_up (fn1 ne s n) (64 + n) (ne n) (128 + n))
theorem fn0_at (ne s : Nat → Int) (j : Nat) : ∀ n, n ≤ 64 → fn0 ne s n j = if 64 ≤ j ∧ j < 64 + n then ne (j - 64) else if 128 ≤ j ∧ j < 128 + n then ne (j - 64) else s j
  | 0, _ => by rw [if_neg (by omega), if_neg (by omega)]; rfl
  | n + 1, hn => by
    show va_up (va_up (fn0 ne s n) (64 + n) (ne n)) (128 + n) (ne (64 + n)) j = _
    by_cases e1 : j = 128 + n
    · subst e1
      rw [if_neg (by omega), if_pos (by omega)]
      simp only [va_up, if_true]
      congr 1; omega
    · by_cases e2 : j = 64 + n
      · subst e2
        rw [if_pos (by omega)]
        simp only [va_up, e1, if_true, if_false]
        congr 1; omega
      · simp only [va_up, e1, e2, if_false]
        rw [fn0_at ne s j n (by omega)]
        by_cases c1 : 64 ≤ j ∧ j < 64 + n
        · rw [if_pos c1, if_pos (by omega)]
        · rw [if_neg c1, if_neg (show ¬ (64 ≤ j ∧ j < 64 + (n + 1)) by omega)]
          by_cases c2 : 128 ≤ j ∧ j < 128 + n
          · rw [if_pos c2, if_pos (by omega)]
          · rw [if_neg c2, if_neg (by omega)]
theorem fn1_at (ne s : Nat → Int) (j : Nat) : ∀ n, n ≤ 64 → fn1 ne s n j = if 64 ≤ j ∧ j < 64 + n then ne (j - 64) else s j
  | 0, _ => by rw [if_neg (by omega)]; rfl
  | n + 1, hn => by
    show va_up (va_up (fn1 ne s n) (64 + n) (ne n)) (128 + n) (va_up (fn1 ne s n) (64 + n) (ne n) (128 + n)) j = _
    by_cases e1 : j = 128 + n
    · subst e1
      rw [if_neg (by omega)]
      have h9 : ¬ 128 + n = 64 + n := by omega
      simp only [va_up, if_true, h9, if_false]
      rw [fn1_at ne s _ n (by omega), if_neg (by omega)]
    · by_cases e2 : j = 64 + n
      · subst e2
        rw [if_pos (by omega)]
        simp only [va_up, e1, if_true, if_false]
        congr 1; omega
      · simp only [va_up, e1, e2, if_false]
        rw [fn1_at ne s j n (by omega)]
        by_cases c1 : 64 ≤ j ∧ j < 64 + n
        · rw [if_pos c1, if_pos (by omega)]
        · rw [if_neg c1, if_neg (show ¬ (64 ≤ j ∧ j < 64 + (n + 1)) by omega)]
/-- the row behind a picture sent -/
def sdR (s T Gv : Nat → Int) (kd mv : Nat → Nat) (sum lost : Nat) : Nat → Int := fun j =>
  if j < 64 then s j else if j < 128 then T (j - 64) else if j < 192 then (if lost = 1 then s j else Gv (j - 128)) else if j = 194 then s 194 + 1 else if j = 195 then s 195 + (lost : Int) else if j = 196 then s 196 + (sum : Int)
  else if j < 197 then s j else if j < 201 then ((kd (j - 197) + 1 : Nat) : Int) else if j < 205 then (if kd (j - 201) = 0 then -1 else ((mv (j - 201) : Nat) : Int)) else s j
theorem sdR_g {F s T Gv : Nat → Int} {kd mv : Nat → Nat} {sum lost : Nat} {x4 x5 x6 : Int} (hF : ∀ j, j < 192 → F j = sdR s T Gv kd mv sum lost j) (hF2 : ∀ j, 192 ≤ j → j < 205 → F j = kmS kd mv s 4 j)
    (h4 : x4 = F 194 + 1) (h5 : x5 = F 195 + (lost : Int)) (h6 : x6 = F 196 + (sum : Int)) : ∀ j, j < 205 → va_up (va_up (va_up F 194 x4) 195 x5) 196 x6 j = sdR s T Gv kd mv sum lost j := by
  intro j hj
  have g4 := hF2 194 (by omega) (by omega)
  have g5 := hF2 195 (by omega) (by omega)
  have g6 := hF2 196 (by omega) (by omega)
  rw [kmS_lt _ _ _ (by omega)] at g4 g5 g6
  by_cases e4 : j = 194
  · subst e4; simp [va_up, sdR, h4, g4]
  by_cases e5 : j = 195
  · subst e5; simp [va_up, sdR, h5, g5]
  by_cases e6 : j = 196
  · subst e6; simp [va_up, sdR, h6, g6]
  simp only [va_up, e4, e5, e6, if_false]
  by_cases c : j < 192
  · exact hF j c
  · rw [hF2 j (by omega) hj]
    unfold sdR
    rw [if_neg (show ¬ j < 64 by omega), if_neg (show ¬ j < 128 by omega), if_neg c, if_neg e4, if_neg e5, if_neg e6]
    by_cases c1 : j < 197
    · rw [if_pos c1]; exact kmS_lt _ _ _ c1 4
    · rw [if_neg c1]
      by_cases c2 : j < 201
      · rw [if_pos c2]
        have e : j = 197 + (j - 197) := by omega
        rw [e, kmS_k kd mv s 4 (by omega) (by omega)]
        simp only [Nat.add_sub_cancel_left]
      · rw [if_neg c2, if_pos hj]
        have e : j = 201 + (j - 201) := by omega
        rw [e, kmS_m kd mv s 4 (by omega) (by omega)]
        simp only [Nat.add_sub_cancel_left]
theorem sdR_0 {s T Gv ne : Nat → Int} {kd mv : Nat → Nat} {sum : Nat} {x4 x5 x6 : Int} (h4 : x4 = fn0 (nxP T Gv ne 4) (kmS kd mv s 4) 64 194 + 1) (h5 : x5 = fn0 (nxP T Gv ne 4) (kmS kd mv s 4) 64 195 + ((0 : Nat) : Int)) (h6 : x6 = fn0 (nxP T Gv ne 4) (kmS kd mv s 4) 64 196 + (sum : Int)) :
    ∀ j, j < 205 → va_up (va_up (va_up (fn0 (nxP T Gv ne 4) (kmS kd mv s 4) 64) 194 x4) 195 x5) 196 x6 j = sdR s T Gv kd mv sum 0 j := by
  refine sdR_g (fun j hj => ?_) (fun j h1 h2 => ?_) h4 h5 h6
  · rw [fn0_at _ _ _ 64 (Nat.le_refl 64)]
    unfold sdR
    by_cases c1 : j < 64
    · rw [if_neg (by omega), if_neg (by omega), if_pos c1]; exact kmS_lt _ _ _ (by omega) 4
    · rw [if_neg c1]
      by_cases c2 : j < 128
      · rw [if_pos (by omega), if_pos c2]; exact nxP_a (by omega)
      · rw [if_neg (by omega), if_pos (by omega), if_neg c2, if_pos hj, if_neg (by omega)]
        have e : j - 64 = 64 + (j - 128) := by omega
        rw [e]; exact nxP_b (by omega)
  · rw [fn0_at _ _ _ 64 (Nat.le_refl 64), if_neg (by omega), if_neg (by omega)]
theorem sdR_1 {s T Gv ne : Nat → Int} {kd mv : Nat → Nat} {sum : Nat} {x4 x5 x6 : Int} (h4 : x4 = fn1 (nxP T Gv ne 4) (kmS kd mv s 4) 64 194 + 1) (h5 : x5 = fn1 (nxP T Gv ne 4) (kmS kd mv s 4) 64 195 + ((1 : Nat) : Int)) (h6 : x6 = fn1 (nxP T Gv ne 4) (kmS kd mv s 4) 64 196 + (sum : Int)) :
    ∀ j, j < 205 → va_up (va_up (va_up (fn1 (nxP T Gv ne 4) (kmS kd mv s 4) 64) 194 x4) 195 x5) 196 x6 j = sdR s T Gv kd mv sum 1 j := by
  refine sdR_g (fun j hj => ?_) (fun j h1 h2 => ?_) h4 h5 h6
  · rw [fn1_at _ _ _ 64 (Nat.le_refl 64)]
    unfold sdR
    by_cases c1 : j < 64
    · rw [if_neg (by omega), if_pos c1]; exact kmS_lt _ _ _ (by omega) 4
    · rw [if_neg c1]
      by_cases c2 : j < 128
      · rw [if_pos (by omega), if_pos c2]; exact nxP_a (by omega)
      · rw [if_neg (by omega), if_neg c2, if_pos hj, if_pos rfl]; exact kmS_lt _ _ _ (by omega) 4
  · rw [fn1_at _ _ _ 64 (Nat.le_refl 64), if_neg (by omega)]
/-- what is added, by the kind -/
def moZ (d t : Nat → Int) (bu b p : Nat) : Int := if knN d t bu b = 0 then 0 else (COM d t bu : Int) * lv (dN d t p) (COM d t bu)
theorem dN_px (d t : Nat → Int) {b i : Nat} (hb : b < 4) (hi : i < 16) : dN d t (px b i) = DFm d t b (BEST d t b) i := by
  show d (px b i) - t (fr (px b i) (mdn (BEST d t (blk (px b i)))) (mrt (BEST d t (blk (px b i))))) = _
  rw [blk_px hb hi]; rfl
theorem more_2 {d t : Nat → Int} {bu b i : Nat} (hb : b < 4) (hi : i < 16) (h : knN d t bu b = 2) : (COM d t bu : Int) * lv (d (px b i) - t (fr (px b i) (mdn (BEST d t b)) (mrt (BEST d t b)))) (COM d t bu) = moZ d t bu b (px b i) := by
  unfold moZ; rw [if_neg (by omega), dN_px d t hb hi]; rfl
theorem more_0 {d t : Nat → Int} (hd : R15 d) (ht : R15 t) {bu b i : Nat} (hb : b < 4) (hi : i < 16) (h : ¬ knN d t bu b = 2) : 0 = moZ d t bu b (px b i) := by
  unfold moZ
  by_cases h0 : knN d t bu b = 0
  · rw [if_pos h0]
  · rw [if_neg h0, dN_px d t hb hi]
    have hk := KDM_le d t b (COM d t bu)
    have h1 : KDM d t b (COM d t bu) = 1 := by unfold knN at h h0; omega
    have hz : LM d t b (BEST d t b) (COM d t bu) 16 = 16 := by
      unfold KDM kdW at h1
      split at h1
      · rename_i c; exact c.2
      · split at h1 <;> omega
    rw [(ZM_LM hd ht (COM_in d t bu).1 16).mpr hz i hi]; omega
theorem moZ_in {d t : Nat → Int} (hd : R15 d) (ht : R15 t) (bu b p : Nat) : -15 ≤ moZ d t bu b p ∧ moZ d t bu b p ≤ 15 := by
  unfold moZ; split
  · omega
  · exact ad15 _ (dN_D hd ht p)
theorem nT_0 {d t : Nat → Int} {bu b i : Nat} (hb : b < 4) (hi : i < 16) (h : knN d t bu b = 0) : d (px b i) = nT d t bu (px b i) := by
  unfold nT; rw [blk_px hb hi]; exact vS_0 h
theorem nT_n {d t : Nat → Int} {bu b i : Nat} (hb : b < 4) (hi : i < 16) (h : ¬ knN d t bu b = 0) : t (fr (px b i) (mdn (BEST d t b)) (mrt (BEST d t b))) + moZ d t bu b (px b i) = nT d t bu (px b i) := by
  unfold nT moZ; rw [blk_px hb hi, if_neg h, ← vS_n h]
  show _ = t (fr (px b i) (mdn (BEST d t (blk (px b i)))) (mrt (BEST d t (blk (px b i))))) + _
  rw [blk_px hb hi]
theorem nG_0 {d t g : Nat → Int} {bu b i : Nat} (hb : b < 4) (hi : i < 16) (h : knN d t bu b = 0) : d (px b i) = nG d t g bu (px b i) := by
  unfold nG; rw [blk_px hb hi]; exact rvS_0 h
theorem nG_n {d t g : Nat → Int} {bu b i : Nat} {z : Int} (hb : b < 4) (hi : i < 16) (h : ¬ knN d t bu b = 0) (hz : z = max 0 (min (g (fr (px b i) (mdn (BEST d t b)) (mrt (BEST d t b))) + moZ d t bu b (px b i)) 15)) : z = nG d t g bu (px b i) := by
  rw [hz]; unfold nG moZ; rw [blk_px hb hi, if_neg h, ← rvS_n h]
