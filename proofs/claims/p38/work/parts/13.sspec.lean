/-! ===== sending, in numbers ===== -/
def blk (p : Nat) : Nat := 2 * (p / 32) + (p % 8) / 4
def ixp (p : Nat) : Nat := 4 * ((p / 8) % 4) + p % 4
theorem px_blk {p : Nat} (hp : p < 64) : blk p < 4 ∧ ixp p < 16 ∧ px (blk p) (ixp p) = p := by unfold blk ixp px; omega
theorem blk_px {b i : Nat} (hb : b < 4) (hi : i < 16) : blk (px b i) = b := by unfold blk px; omega
theorem ixp_px {b i : Nat} (hb : b < 4) (hi : i < 16) : ixp (px b i) = i := by unfold ixp px; omega
def snS (val : Nat → Int) (t : Nat → Int) (b : Nat) : Nat → Nat → Int
  | 0 => t
  | i + 1 => va_up (snS val t b i) (px b i) (val (px b i))
theorem snS_at {val t : Nat → Int} {b : Nat} (hb : b < 4) {p : Nat} (hp : p < 64) : ∀ n, n ≤ 16 → snS val t b n p = if blk p = b ∧ ixp p < n then val p else t p
  | 0, _ => by rw [if_neg (by omega)]; rfl
  | n + 1, hn => by
    have ih := snS_at (val := val) (t := t) hb hp n (by omega)
    have h1 := px_blk hp
    show va_up (snS val t b n) (px b n) (val (px b n)) p = _
    by_cases e : p = px b n
    · have e1 := blk_px (b := b) (i := n) hb (by omega)
      have e2 := ixp_px (b := b) (i := n) hb (by omega)
      rw [← e] at e1 e2
      rw [if_pos ⟨e1, by omega⟩, ← e]
      simp [va_up]
    · have hne : ¬ (blk p = b ∧ ixp p = n) := fun z => e (by rw [← z.1, ← z.2]; exact h1.2.2.symm)
      simp only [va_up, if_neg e]
      rw [ih]
      by_cases c : blk p = b ∧ ixp p < n
      · rw [if_pos c, if_pos ⟨c.1, by omega⟩]
      · rw [if_neg c, if_neg (fun z => c ⟨z.1, by
          rcases Nat.lt_succ_iff_lt_or_eq.mp z.2 with q | q
          · exact q
          · exact absurd ⟨z.1, q⟩ hne⟩)]
theorem snS_16 {val t : Nat → Int} {b : Nat} (hb : b < 4) {p : Nat} (hp : p < 64) : snS val t b 16 p = if blk p = b then val p else t p := by
  rw [snS_at hb hp 16 (Nat.le_refl 16)]
  have h1 := px_blk hp
  by_cases c : blk p = b
  · rw [if_pos ⟨c, h1.2.1⟩, if_pos c]
  · rw [if_neg (fun z => c z.1), if_neg c]
def sdP (val : Nat → Nat → Int) (t : Nat → Int) : Nat → Nat → Int
  | 0 => t
  | n + 1 => snS (val n) (sdP val t n) n 16
theorem sdP_at {val : Nat → Nat → Int} {t : Nat → Int} {p : Nat} (hp : p < 64) : ∀ n, n ≤ 4 → sdP val t n p = if blk p < n then val (blk p) p else t p
  | 0, _ => by rw [if_neg (by omega)]; rfl
  | n + 1, hn => by
    show snS (val n) (sdP val t n) n 16 p = _
    rw [snS_16 (by omega) hp, sdP_at hp n (by omega)]
    by_cases c : blk p = n
    · rw [if_pos c, if_pos (by omega), c]
    · rw [if_neg c]
      by_cases c2 : blk p < n
      · rw [if_pos c2, if_pos (by omega)]
      · rw [if_neg c2, if_neg (by omega)]
theorem sdP_4 {val : Nat → Nat → Int} {t : Nat → Int} {p : Nat} (hp : p < 64) : sdP val t 4 p = val (blk p) p := by
  rw [sdP_at hp 4 (Nat.le_refl 4), if_pos (px_blk hp).1]
theorem fpS_eq (t : Nat → Int) (b mv : Nat) (pr : Nat → Int) : ∀ n, fpS t b mv pr n = snS (fun p => t (fr p (mdn mv) (mrt mv))) pr b n
  | 0 => rfl
  | n + 1 => by show va_up _ _ _ = va_up _ _ _; rw [fpS_eq t b mv pr n]
theorem fdS_eq (d t : Nat → Int) (b mv : Nat) (df : Nat → Int) : ∀ n, fdS d t b mv df n = snS (fun p => d p - t (fr p (mdn mv) (mrt mv))) df b n
  | 0 => rfl
  | n + 1 => by show va_up _ _ _ = va_up _ _ _; rw [fdS_eq d t b mv df n]
theorem prS_eq (d t pr : Nat → Int) : ∀ n, prS d t pr n = sdP (fun b p => t (fr p (mdn (BEST d t b)) (mrt (BEST d t b)))) pr n
  | 0 => rfl
  | n + 1 => by show fpS _ _ _ _ _ = snS _ _ _ _; rw [fpS_eq, prS_eq d t pr n]
theorem dfS_eq (d t df : Nat → Int) : ∀ n, dfS d t df n = sdP (fun b p => d p - t (fr p (mdn (BEST d t b)) (mrt (BEST d t b)))) df n
  | 0 => rfl
  | n + 1 => by show fdS _ _ _ _ _ _ = snS _ _ _ _; rw [fdS_eq, dfS_eq d t df n]
theorem moS_at (d t : Nat → Int) (mo : Nat → Nat) : ∀ n b, b < n → moS d t mo n b = BEST d t b
  | 0, b, h => absurd h (Nat.not_lt_zero b)
  | n + 1, b, h => by
    show va_up (moS d t mo n) n (BEST d t n) b = _
    by_cases e : b = n
    · subst e; simp [va_up]
    · simp [va_up, e]; exact moS_at d t mo n b (by omega)
theorem fzK_at (ki : Nat → Nat) : ∀ n b, b < n → fzK ki n b = 0
  | 0, b, h => absurd h (Nat.not_lt_zero b)
  | n + 1, b, h => by
    show va_up (fzK ki n) n 0 b = _
    by_cases e : b = n
    · subst e; simp [va_up]
    · simp [va_up, e]; exact fzK_at ki n b (by omega)
theorem sN_cong {f g : Nat → Nat} : ∀ n, (∀ k, k < n → f k = g k) → sN f n = sN g n
  | 0, _ => rfl
  | n + 1, h => by show sN f n + f n = sN g n + g n; rw [sN_cong n (fun k hk => h k (by omega)), h n (by omega)]
/-- the levels' bits of the foreseen picture -/
theorem LB_LM {d t df : Nat → Int} {b q m : Nat} (h : ∀ i, i < 16 → df (px b i) = DFm d t b m i) : LB df b q 16 = LM d t b m q 16 := sN_cong 16 (fun k hk => by rw [h k hk])
theorem df4_at (d t df : Nat → Int) {b i : Nat} (hb : b < 4) (hi : i < 16) : dfS d t df 4 (px b i) = DFm d t b (BEST d t b) i := by
  rw [dfS_eq, sdP_4 (px_lt hb hi), blk_px hb hi]; rfl
theorem pr4_at (d t pr : Nat → Int) {p : Nat} (hp : p < 64) : prS d t pr 4 p = t (fr p (mdn (BEST d t (blk p))) (mrt (BEST d t (blk p)))) := by rw [prS_eq, sdP_4 hp]
theorem wbS_ABM (d t df : Nat → Int) (mo : Nat → Nat) (q : Nat) : wbS (moS d t mo 4) (dfS d t df 4) q 4 = ABM d t q 4 :=
  sN_cong 4 (fun b hb => by show btW _ _ = btW _ _; rw [moS_at d t mo 4 b hb, LB_LM (fun i hi => df4_at d t df hb hi)])
theorem COA_COM (d t df : Nat → Int) (mo : Nat → Nat) (bu : Nat) : COA (fun q9 => wbS (moS d t mo 4) (dfS d t df 4) q9 4) bu = COM d t bu := by
  show COA _ bu = COA _ bu
  congr 1
theorem kd_KDM (d t df : Nat → Int) (mo : Nat → Nat) (q : Nat) {b : Nat} (hb : b < 4) : kdW (moS d t mo 4 b) (LB (dfS d t df 4) b q 16) = KDM d t b q := by
  rw [moS_at d t mo 4 b hb, LB_LM (fun i hi => df4_at d t df hb hi)]; rfl
/-- what is added to a prediction -/
def adZ (x : Int) (q : Nat) : Int := (q : Int) * lv x q
theorem adZ_in {x : Int} (q : Nat) (hx : -15 ≤ x ∧ x ≤ 15) : (0 ≤ x → 0 ≤ adZ x q ∧ adZ x q ≤ x) ∧ (x ≤ 0 → x ≤ adZ x q ∧ adZ x q ≤ 0) := by
  have h := Int.mul_tdiv_add_tmod x (q : Int)
  have e : adZ x q = x - x.tmod q := by unfold adZ lv; omega
  rw [e]
  constructor
  · intro h0
    have h1 := Int.tmod_nonneg (q : Int) h0
    have h2 : (0 : Int) ≤ x.tdiv q := Int.tdiv_nonneg h0 (by omega)
    have h3 : (0 : Int) ≤ (q : Int) * x.tdiv q := Int.mul_nonneg (by omega) h2
    omega
  · intro h0
    have h1 := Int.tmod_nonneg (q : Int) (show 0 ≤ -x by omega)
    rw [Int.neg_tmod] at h1
    have h2 : (0 : Int) ≤ (-x).tdiv q := Int.tdiv_nonneg (by omega) (by omega)
    rw [Int.neg_tdiv] at h2
    have h3 : (0 : Int) ≤ (q : Int) * (-(x.tdiv q)) := Int.mul_nonneg (by omega) h2
    rw [Int.mul_neg] at h3
    omega
/-- the kinds, the picture sent, the picture received -/
def nwK (d t : Nat → Int) (ky : Prop) [Decidable ky] (q b : Nat) : Nat := if ky then 0 else KDM d t b q
def nwD (d t : Nat → Int) (b p : Nat) : Int := d p - t (fr p (mdn (BEST d t b)) (mrt (BEST d t b)))
def nwT (d t : Nat → Int) (ky : Prop) [Decidable ky] (q : Nat) (p : Nat) : Int :=
  if nwK d t ky q (blk p) = 0 then d p else t (fr p (mdn (BEST d t (blk p))) (mrt (BEST d t (blk p)))) + adZ (nwD d t (blk p) p) q
def nwR (d t g : Nat → Int) (ky : Prop) [Decidable ky] (q : Nat) (p : Nat) : Int :=
  if nwK d t ky q (blk p) = 0 then d p else max 0 (min (g (fr p (mdn (BEST d t (blk p))) (mrt (BEST d t (blk p)))) + adZ (nwD d t (blk p) p) q) 15)
theorem nwT_R {d t : Nat → Int} (hd : R15 d) (ht : R15 t) (ky : Prop) [Decidable ky] (q : Nat) : R15 (nwT d t ky q) := by
  intro p
  have h1 := hd p
  have h2 := ht (fr p (mdn (BEST d t (blk p))) (mrt (BEST d t (blk p))))
  unfold nwT
  split
  · exact h1
  · have h3 := adZ_in q (x := nwD d t (blk p) p) (by unfold nwD; omega)
    unfold nwD at *
    omega
theorem nwR_R {d t g : Nat → Int} (hd : R15 d) (ky : Prop) [Decidable ky] (q : Nat) : R15 (nwR d t g ky q) := by
  intro p
  have h1 := hd p
  unfold nwR
  split
  · exact h1
  · omega
