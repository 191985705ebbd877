/-! ===== what would be sent; the bits; the text ===== -/
def D15 (d : Nat → Int) : Prop := ∀ p, -15 ≤ d p ∧ d p ≤ 15
theorem D15_up {d : Nat → Int} (h : D15 d) (k : Nat) {v : Int} (h0 : -15 ≤ v) (h1 : v ≤ 15) : D15 (va_up d k v) := by
  intro p
  by_cases hp : p = k
  · simp [va_up, hp]; exact ⟨h0, h1⟩
  · simp [va_up, hp]; exact h p
def sN (f : Nat → Nat) : Nat → Nat
  | 0 => 0
  | k + 1 => sN f k + f k
theorem sN_le {f : Nat → Nat} {M : Nat} (h : ∀ k, f k ≤ M) : ∀ k, sN f k ≤ M * k
  | 0 => Nat.zero_le _
  | k + 1 => by
    have h1 := sN_le h k
    have h2 := h k
    show sN f k + f k ≤ _
    rw [Nat.mul_succ]; omega
def lbits (z : Int) : Nat := 2 * Nat.log2 (z.natAbs + 1) + (if z = 0 then 1 else 2)
theorem log2_half {n : Nat} (h : 1 < n) : Nat.log2 n = Nat.log2 (n / 2) + 1 := by
  rw [Nat.log2_def n, if_pos (by omega)]
theorem log2_one {n : Nat} (h : n ≤ 1) : Nat.log2 n = 0 := by
  rw [Nat.log2_def n, if_neg (by omega)]
theorem log2_16 {n : Nat} (h : n ≤ 16) : Nat.log2 n ≤ 4 := by
  have key : ∀ n, n < 17 → Nat.log2 n ≤ 4 := by decide +kernel
  exact key n (by omega)
theorem lbits_in {z : Int} (h : -15 ≤ z ∧ z ≤ 15) : 1 ≤ lbits z ∧ lbits z ≤ 10 := by
  have h1 := log2_16 (n := z.natAbs + 1) (by omega)
  unfold lbits
  split <;> omega
theorem lbits_1 {z : Int} : lbits z = 1 ↔ z = 0 := by
  constructor
  · intro h
    by_cases hz : z = 0
    · exact hz
    · unfold lbits at h; rw [if_neg hz] at h; omega
  · intro h; subst h; decide
abbrev lv (x : Int) (q : Nat) : Int := Int.tdiv x (q : Int)
theorem lv_in {x : Int} {q : Nat} (h : -15 ≤ x ∧ x ≤ 15) (hq : 1 ≤ q) : -15 ≤ lv x q ∧ lv x q ≤ 15 := by
  have h1 : (Int.tdiv x (q : Int)).natAbs ≤ x.natAbs := by
    rw [Int.natAbs_tdiv]; exact Nat.div_le_self _ _
  show -15 ≤ Int.tdiv x q ∧ Int.tdiv x q ≤ 15
  omega
def LB (df : Nat → Int) (b q : Nat) (i : Nat) : Nat := sN (fun j => lbits (lv (df (px b j)) q)) i
theorem LB_in {df : Nat → Int} (h : D15 df) (b : Nat) {q : Nat} (hq : 1 ≤ q) : ∀ i, i ≤ LB df b q i ∧ LB df b q i ≤ 10 * i
  | 0 => by simp [LB, sN]
  | i + 1 => by
    have h1 := LB_in h b hq i
    have h2 := lbits_in (lv_in (h (px b i)) hq)
    have e : LB df b q (i + 1) = LB df b q i + lbits (lv (df (px b i)) q) := rfl
    omega
def AZ (df : Nat → Int) (b q i : Nat) : Prop := ∀ j, j < i → lv (df (px b j)) q = 0
theorem AZ_0 (df : Nat → Int) (b q : Nat) : AZ df b q 0 := fun j h => absurd h (Nat.not_lt_zero j)
theorem AZ_s {df : Nat → Int} {b q i : Nat} (h : AZ df b q i) (h2 : lv (df (px b i)) q = 0) : AZ df b q (i + 1) := fun j hj => by
  rcases Nat.lt_succ_iff_lt_or_eq.mp hj with h3 | h3
  · exact h j h3
  · subst h3; exact h2
theorem AZ_d {df : Nat → Int} {b q i : Nat} (h : AZ df b q (i + 1)) : AZ df b q i := fun j hj => h j (Nat.lt_succ_of_lt hj)
theorem AZ_LB {df : Nat → Int} (h : D15 df) {b q : Nat} (hq : 1 ≤ q) : ∀ i, AZ df b q i ↔ LB df b q i = i
  | 0 => ⟨fun _ => rfl, fun _ => AZ_0 df b q⟩
  | i + 1 => by
    have h1 := AZ_LB h (b := b) hq i
    have h2 := lbits_in (lv_in (h (px b i)) hq)
    have h3 := LB_in h b hq i
    have e : LB df b q (i + 1) = LB df b q i + lbits (lv (df (px b i)) q) := rfl
    constructor
    · intro z
      have z1 := h1.mp (AZ_d z)
      have z2 := lbits_1.mpr (z i (Nat.lt_succ_self i))
      omega
    · intro z
      exact AZ_s (h1.mpr (by omega)) (lbits_1.mp (by omega))
def kdW (m L : Nat) : Nat := if m = 12 ∧ L = 16 then 1 else if 6 + L ≤ 66 then 2 else 0
def btW (m L : Nat) : Nat := if m = 12 ∧ L = 16 then 1 else if 6 + L ≤ 66 then 6 + L else 66
theorem btW_le (m L : Nat) : btW m L ≤ 66 := by unfold btW; split <;> first | omega | (split <;> omega)
def M25 (mo : Nat → Nat) : Prop := ∀ j, mo j < 25
theorem M25_up {mo : Nat → Nat} (h : M25 mo) (k : Nat) {v : Nat} (hv : v < 25) : M25 (va_up mo k v) := by
  intro p
  by_cases hp : p = k
  · simp [va_up, hp]; exact hv
  · simp [va_up, hp]; exact h p
theorem btB_1 {m L : Nat} {P : Prop} (h : P ↔ L = 16) (f : m = 12 ∧ P) : 1 = btW m L := by unfold btW; rw [if_pos ⟨f.1, h.mp f.2⟩]
theorem btB_2 {m L : Nat} {P : Prop} (h : P ↔ L = 16) (f : ¬ (m = 12 ∧ P)) (g : 6 + L ≤ 66) : 6 + L = btW m L := by unfold btW; rw [if_neg (fun z => f ⟨z.1, h.mpr z.2⟩), if_pos g]
theorem btB_3 {m L : Nat} {P : Prop} (h : P ↔ L = 16) (f : ¬ (m = 12 ∧ P)) (g : ¬ 6 + L ≤ 66) : 66 = btW m L := by unfold btW; rw [if_neg (fun z => f ⟨z.1, h.mpr z.2⟩), if_neg g]
def fpS (t : Nat → Int) (b mv : Nat) (pr : Nat → Int) : Nat → Nat → Int
  | 0 => pr
  | i + 1 => va_up (fpS t b mv pr i) (px b i) (t (fr (px b i) (mdn mv) (mrt mv)))
def fdS (d t : Nat → Int) (b mv : Nat) (df : Nat → Int) : Nat → Nat → Int
  | 0 => df
  | i + 1 => va_up (fdS d t b mv df i) (px b i) (d (px b i) - t (fr (px b i) (mdn mv) (mrt mv)))
theorem fpS_R {t : Nat → Int} {b mv : Nat} {pr : Nat → Int} (ht : R15 t) (h : R15 pr) : ∀ i, R15 (fpS t b mv pr i)
  | 0 => h
  | i + 1 => R15_up (fpS_R ht h i) _ (ht _).1 (ht _).2
theorem fdS_D {d t : Nat → Int} {b mv : Nat} {df : Nat → Int} (hd : R15 d) (ht : R15 t) (h : D15 df) : ∀ i, D15 (fdS d t b mv df i)
  | 0 => h
  | i + 1 => by
    have h1 := hd (px b i)
    have h2 := ht (fr (px b i) (mdn mv) (mrt mv))
    exact D15_up (fdS_D hd ht h i) _ (by omega) (by omega)
def fzK (ki : Nat → Nat) : Nat → Nat → Nat
  | 0 => ki
  | i + 1 => va_up (fzK ki i) i 0
def moS (d t : Nat → Int) (mo : Nat → Nat) : Nat → Nat → Nat
  | 0 => mo
  | n + 1 => va_up (moS d t mo n) n (BEST d t n)
theorem moS_M {d t : Nat → Int} {mo : Nat → Nat} (h : M25 mo) : ∀ n, M25 (moS d t mo n)
  | 0 => h
  | n + 1 => M25_up (moS_M h n) n (BEST_lt d t n)
def prS (d t : Nat → Int) (pr : Nat → Int) : Nat → Nat → Int
  | 0 => pr
  | n + 1 => fpS t n (BEST d t n) (prS d t pr n) 16
def dfS (d t : Nat → Int) (df : Nat → Int) : Nat → Nat → Int
  | 0 => df
  | n + 1 => fdS d t n (BEST d t n) (dfS d t df n) 16
theorem prS_R {d t pr : Nat → Int} (ht : R15 t) (h : R15 pr) : ∀ n, R15 (prS d t pr n)
  | 0 => h
  | n + 1 => fpS_R ht (prS_R ht h n) 16
theorem dfS_D {d t df : Nat → Int} (hd : R15 d) (ht : R15 t) (h : D15 df) : ∀ n, D15 (dfS d t df n)
  | 0 => h
  | n + 1 => fdS_D hd ht (dfS_D hd ht h n) 16
def wkS (mo : Nat → Nat) (df : Nat → Int) (q : Nat) (ki : Nat → Nat) : Nat → Nat → Nat
  | 0 => ki
  | n + 1 => va_up (wkS mo df q ki n) n (kdW (mo n) (LB df n q 16))
def wbS (mo : Nat → Nat) (df : Nat → Int) (q : Nat) : Nat → Nat := sN (fun n => btW (mo n) (LB df n q 16))
theorem wbS_le (mo : Nat → Nat) (df : Nat → Int) (q n : Nat) : wbS mo df q n ≤ 66 * n := sN_le (fun k => btW_le _ _) n
/-- the least coarseness that keeps to the budget, or 8 -/
def cz (B : Nat → Nat) (bu : Nat) : Nat → Nat → Nat
  | 0, q => q
  | n + 1, q => if bu < B q then cz B bu n (q + 1) else q
theorem cz_s {B : Nat → Nat} {bu c : Nat} (hc : c + 1 ≤ 8) (h : bu < B c) : cz B bu (8 - c) c = cz B bu (8 - (c + 1)) (c + 1) := by
  have e : 8 - c = (8 - (c + 1)) + 1 := by omega
  rw [e]; exact if_pos h
theorem cz_x {B : Nat → Nat} {bu c : Nat} (h : ¬ bu < B c) : cz B bu (8 - c) c = c := by
  cases e : 8 - c with
  | zero => rfl
  | succ n => exact if_neg h
theorem cz_e {B : Nat → Nat} {bu c : Nat} (h : 8 ≤ c) : cz B bu (8 - c) c = c := by
  have e : 8 - c = 0 := by omega
  rw [e]; rfl
def COA (B : Nat → Nat) (bu : Nat) : Nat := cz B bu 7 1
theorem cz_in {B : Nat → Nat} {bu : Nat} : ∀ n q, 1 ≤ q → q + n ≤ 8 → 1 ≤ cz B bu n q ∧ cz B bu n q ≤ 8
  | 0, q, h1, h2 => ⟨h1, by show q ≤ 8; omega⟩
  | n + 1, q, h1, h2 => by
    unfold cz
    split
    · exact cz_in n (q + 1) (by omega) (by omega)
    · exact ⟨h1, by omega⟩
theorem COA_in (B : Nat → Nat) (bu : Nat) : 1 ≤ COA B bu ∧ COA B bu ≤ 8 := cz_in 7 1 (by omega) (by omega)
theorem wkS_at (mo : Nat → Nat) (df : Nat → Int) (q : Nat) (ki : Nat → Nat) : ∀ n b, b < n → wkS mo df q ki n b = kdW (mo b) (LB df b q 16)
  | 0, b, h => absurd h (Nat.not_lt_zero b)
  | n + 1, b, h => by
    unfold wkS
    by_cases e : b = n
    · subst e; simp [va_up]
    · simp [va_up, e]; exact wkS_at mo df q ki n b (by omega)
/-! the text -/
abbrev isDg (s : Nat) : Prop := 48 ≤ s ∧ s ≤ 57
abbrev isSh (s : Nat) : Prop := s = 117 ∨ s = 100 ∨ s = 108 ∨ s = 114 ∨ s = 115 ∨ s = 120
def dueA (du s : Nat) : Nat :=
  if du = 0 then (if s = 112 then 1 else if isSh s then 6 else 7)
  else if du = 1 then (if s = 48 then 3 else if isDg s then 2 else 7)
  else if du = 2 then (if isDg s then 3 else if s = 61 then 4 else 7)
  else if du = 3 then (if s = 61 then 4 else 7)
  else if du = 4 then (if s = 48 then 6 else if isDg s then 5 else 7)
  else if du = 5 then (if isDg s then 6 else if s = 59 then 0 else 7)
  else if du = 6 then (if s = 59 then 0 else 7) else 7
theorem dueA_le (du s : Nat) : dueA du s ≤ 7 := by unfold dueA; (repeat' split) <;> omega
def dI (n : Nat) : Int := if n = 7 then -1 else n
def sgn (tn : Nat → Nat) (ln i : Nat) : Nat := if i < ln then tn i else 59
theorem sgn_in {tn : Nat → Nat} {ln i : Nat} (h : i < ln) : tn i = sgn tn ln i := by unfold sgn; rw [if_pos h]
theorem sgn_out {tn : Nat → Nat} {ln i : Nat} (h : ¬ i < ln) : 59 = sgn tn ln i := by unfold sgn; rw [if_neg h]
def T128 (tn : Nat → Nat) : Prop := ∀ j, tn j < 128
theorem sgn_lt {tn : Nat → Nat} (h : T128 tn) (ln i : Nat) : sgn tn ln i < 128 := by have := h i; unfold sgn; split <;> omega
/-- what is due after k signs; 7 once a sign can't stand there -/
def dst (tn : Nat → Nat) : Nat → Nat
  | 0 => 0
  | k + 1 => dueA (dst tn k) (tn k)
theorem dst_le (tn : Nat → Nat) : ∀ k, dst tn k ≤ 7
  | 0 => by show 0 ≤ 7; omega
  | k + 1 => dueA_le _ _
def feF (tn : Nat → Nat) (ln : Nat) : Nat → Nat → Int
  | 0, i => if dst tn i = 5 ∨ dst tn i = 6 then -1 else ln
  | n + 1, i => if dst tn (i + 1) = 7 then i else feF tn ln n (i + 1)
def FE (tn : Nat → Nat) (ln : Nat) : Int := feF tn ln ln 0
theorem feF_s {tn : Nat → Nat} {ln i : Nat} (hi : i < ln) (h : ¬ dst tn (i + 1) = 7) : feF tn ln (ln - i) i = feF tn ln (ln - (i + 1)) (i + 1) := by
  have e : ln - i = (ln - (i + 1)) + 1 := by omega
  rw [e]; exact if_neg h
theorem feF_x {tn : Nat → Nat} {ln i : Nat} (hi : i < ln) (h : dst tn (i + 1) = 7) : feF tn ln (ln - i) i = i := by
  have e : ln - i = (ln - (i + 1)) + 1 := by omega
  rw [e]; exact if_pos h
theorem feF_e {tn : Nat → Nat} {ln i : Nat} (hi : ln ≤ i) : feF tn ln (ln - i) i = if dst tn i = 5 ∨ dst tn i = 6 then -1 else (ln : Int) := by
  have e : ln - i = 0 := by omega
  rw [e]; rfl
def anF (tn : Nat → Nat) (ln : Nat) : Nat → Nat → Nat
  | 0, i => i
  | n + 1, i => if i < ln ∧ isDg (tn i) then anF tn ln n (i + 1) else i
def AN (tn : Nat → Nat) (ln i : Nat) : Nat := anF tn ln (ln - i) i
theorem AN_s {tn : Nat → Nat} {ln i : Nat} (h : i < ln) (h2 : isDg (tn i)) : AN tn ln i = AN tn ln (i + 1) := by
  have e : ln - i = (ln - (i + 1)) + 1 := by omega
  show anF tn ln (ln - i) i = _
  rw [e]; exact if_pos ⟨h, h2⟩
theorem AN_x {tn : Nat → Nat} {ln i : Nat} (h : ¬ (i < ln ∧ isDg (tn i))) : AN tn ln i = i := by
  show anF tn ln (ln - i) i = _
  cases e : ln - i with
  | zero => rfl
  | succ n => exact if_neg h
theorem AN_ge (tn : Nat → Nat) (ln : Nat) : ∀ n i, i ≤ anF tn ln n i ∧ anF tn ln n i ≤ i + n
  | 0, i => ⟨Nat.le_refl _, Nat.le_refl _⟩
  | n + 1, i => by
    have h := AN_ge tn ln n (i + 1)
    unfold anF
    split <;> omega
theorem AN_in (tn : Nat → Nat) {ln i : Nat} (h : i ≤ ln) : i ≤ AN tn ln i ∧ AN tn ln i ≤ ln := by
  have := AN_ge tn ln (ln - i) i
  unfold AN; omega
def nbZ (tn : Nat → Nat) (ln s : Nat) : Nat → Int
  | 0 => 0
  | k + 1 => 10 * nbZ tn ln s k + ((sgn tn ln (s + k) : Nat) - 48 : Int)
def csF : Nat → Nat → Nat → Nat
  | 0, r, c => if r = 0 then c else 0
  | n + 1, r, c => if r % 256 = 0 then (if r = 0 then c else 0) else if r % 256 < 33 ∨ 126 < r % 256 then 0 else csF n (r / 256) (c + 1)
theorem csF_s {i r : Nat} (hi : i < 8) (h : ¬ r % 256 = 0) (h2 : ¬ (r % 256 < 33 ∨ 126 < r % 256)) : csF (8 - i) r i = csF (8 - (i + 1)) (r / 256) (i + 1) := by
  have e : 8 - i = (8 - (i + 1)) + 1 := by omega
  rw [e]; show (if _ then _ else _) = _; rw [if_neg h, if_neg h2]
theorem csF_b {i r : Nat} (hi : i < 8) (h : ¬ r % 256 = 0) (h2 : r % 256 < 33 ∨ 126 < r % 256) : csF (8 - i) r i = 0 := by
  have e : 8 - i = (8 - (i + 1)) + 1 := by omega
  rw [e]; show (if _ then _ else _) = _; rw [if_neg h, if_pos h2]
theorem csF_z {i r : Nat} (h : r % 256 = 0 ∨ 8 ≤ i) : csF (8 - i) r i = if r = 0 then i else 0 := by
  cases e : 8 - i with
  | zero => rfl
  | succ n => show (if _ then _ else _) = _; rw [if_pos (by omega)]
def CS (u : Nat) : Nat := csF 8 u 0
theorem six {P : Nat → Prop} (h0 : P 0) (h1 : P 1) (h2 : P 2) (h3 : P 3) (h4 : P 4) (h5 : P 5) : ∀ k, k < 6 → P k := by
  intro k hk
  match k, hk with
  | 0, _ => exact h0
  | 1, _ => exact h1
  | 2, _ => exact h2
  | 3, _ => exact h3
  | 4, _ => exact h4
  | 5, _ => exact h5
abbrev SVT : Type := (Nat → Int) × (Nat → Int) × (Nat → Int) × (Nat → Nat) × (Nat → Nat) × Nat × Nat × Nat × Nat × Nat
theorem wb_tb (n : Nat) : (lN n).toBitVec = BitVec.ofNat 64 n := rfl
theorem wb_inj {a b : Int64} (h : a.toBitVec = b.toBitVec) : a = b := Int64.toBitVec_inj.mp h
theorem wb_tn {n : Nat} (h : n < 2 ^ 64) : (lN n).toBitVec.toNat = n := by rw [wb_tb, BitVec.toNat_ofNat, Nat.mod_eq_of_lt h]
theorem wb_of (x : Int64) : ∃ n, n < 2 ^ 64 ∧ x = lN n := ⟨x.toBitVec.toNat, x.toBitVec.isLt, wb_inj (by rw [wb_tb]; simp)⟩
theorem wb_of32 (x : Int32) : ∃ n, n < 2 ^ 32 ∧ x = nI n := ⟨x.toBitVec.toNat, x.toBitVec.isLt, Int32.toBitVec_inj.mp (by show _ = BitVec.ofNat 32 _; simp)⟩
theorem wb_c : ∀ k, k < 64 → ((nI k).toInt64 &&& 63) = lN k := by decide +kernel
theorem wb_cu : ∀ k, k < 64 → ((nI k).toInt64.toUInt64 &&& Int64.toUInt64 63) = UInt64.ofNat k := by decide +kernel
theorem wb_sm : ∀ k, k < 64 → (BitVec.ofNat 64 k).smod 64 = BitVec.ofNat 64 k := by decide +kernel
theorem wb_pw {a b : Nat} (h : a ≤ b) : 2 ^ b = 2 ^ a * 2 ^ (b - a) := by rw [← Nat.pow_add]; congr 1; omega
theorem wb_lt2 {a b : Nat} (h : a < b) : 2 ^ a < 2 ^ b := Nat.pow_lt_pow_right (by decide) h
theorem wb_mod (n : Nat) : lN n = lN (n % 2 ^ 64) := wb_inj (by rw [wb_tb, wb_tb]; apply BitVec.eq_of_toNat_eq; rw [BitVec.toNat_ofNat, BitVec.toNat_ofNat, Nat.mod_mod])
theorem wb_shr {n k : Nat} (hn : n < 2 ^ 64) (hk : k < 64) : ((lN n).toUInt64 >>> ((nI k).toInt64.toUInt64 &&& Int64.toUInt64 63)).toInt64 = lN (n / 2 ^ k) := by
  rw [wb_cu k hk]
  apply wb_inj
  apply BitVec.eq_of_toNat_eq
  show ((lN n).toUInt64 >>> UInt64.ofNat k).toNat = (BitVec.ofNat 64 _).toNat
  have h1 : (UInt64.ofNat k).toNat = k := by
    show (BitVec.ofNat 64 k).toNat = k
    rw [BitVec.toNat_ofNat, Nat.mod_eq_of_lt (by omega)]
  have h2 : (lN n).toUInt64.toNat = n := wb_tn hn
  rw [UInt64.toNat_shiftRight, h1, h2, Nat.mod_eq_of_lt hk, Nat.shiftRight_eq_div_pow, BitVec.toNat_ofNat, Nat.mod_eq_of_lt (Nat.lt_of_le_of_lt (Nat.div_le_self _ _) hn)]
theorem wb_shl (n : Nat) {k : Nat} (hk : k < 64) : lN n <<< ((nI k).toInt64 &&& 63) = lN (n * 2 ^ k) := by
  rw [wb_c k hk]
  apply wb_inj
  rw [Int64.toBitVec_shiftLeft, wb_tb, wb_tb, wb_tb, wb_sm k hk]
  apply BitVec.eq_of_toNat_eq
  rw [BitVec.shiftLeft_eq', BitVec.toNat_shiftLeft, BitVec.toNat_ofNat, BitVec.toNat_ofNat, BitVec.toNat_ofNat, Nat.mod_eq_of_lt (show k < 2 ^ 64 by omega), Nat.shiftLeft_eq, Nat.mul_mod, Nat.mod_mod, ← Nat.mul_mod]
theorem wb_and {a b : Nat} (ha : a < 2 ^ 64) (hb : b < 2 ^ 64) : lN a &&& lN b = lN (a &&& b) := by
  apply wb_inj
  rw [Int64.toBitVec_and, wb_tb, wb_tb, wb_tb]
  apply BitVec.eq_of_toNat_eq
  rw [BitVec.toNat_and, BitVec.toNat_ofNat, BitVec.toNat_ofNat, BitVec.toNat_ofNat, Nat.mod_eq_of_lt ha, Nat.mod_eq_of_lt hb, Nat.mod_eq_of_lt (Nat.and_lt_two_pow _ hb)]
theorem dI_m1 {n : Nat} (_ : n ≤ 7) (h : dI n = -1) : n = 7 := by unfold dI at h; split at h <;> omega
theorem dI_in {n : Nat} (h : n ≤ 7) : -1 ≤ dI n ∧ dI n ≤ 7 := by unfold dI; split <;> omega
theorem dI_nat {n : Nat} (h : ¬ n = 7) : iI (dI n) = nI n := by unfold dI; rw [if_neg h, nI_i]
theorem z_abs1 (z : Int) : iI ((z.natAbs : Int) + 1) = nI (z.natAbs + 1) := by rw [nI_i]; rfl
abbrev qPv (H0 : Heap) : Array Value → State → Outcome → State → Prop := va_Qv (fun (_ : Unit) => True) (fun _ t => t.heap = H0) noF
section MYV
variable {p : Program} {l : Launch} {e : Env} {R : Room} {s : State} {m : MethodId} {args : Array Value} {below : List Frame} {meth : Method} {c : Code} {H : Heap} {locs : List Loc} {cells slots : Nat} {Q : State → Prop}
variable {cc : ByteArray} {pc : Nat} {ls : Array Slot} {rest st0 : List Value} {a : Array Value} {A0 A1 : Nat → Prop} {H0 : Heap} {mc ms : Nat} {G : GT}
theorem kPv (hr : va_Run p l e R s m args below meth c H locs cells slots 0 0 (F0 m pc ls st0) rest (qPv H a) noF) (hS : va_S A0 H0 H locs)
    (kk : ∀ locs1 : List Loc, va_S A0 H0 H locs1 → W p l e R s m args below meth c H locs1 cells slots Q (F0 m (pc + 3) ls rest)) : W p l e R s m args below meth c H locs cells slots Q (F0 m pc ls st0) := by
  refine va_callv hr hS (fun _ _ h => h.elim) (fun _ h => h.elim) (fun u t H1 locs1 ht _ _ hB _ _ hS1 => ?_)
  have h1 : H1 = H := ht.symm.trans hB
  subst h1
  exact kk locs1 hS1
theorem xPv (hx : p.tables.exec = Jvm.exec) (hb : c.code = cc) (hr : meth.sig.returnType = none) (hlocks : meth.locks = false) (hS : va_S noF s.heap s.heap locs) (hdg : decode cc pc = .ok (.return_, 1)) :
    W p l e R s m args below meth c s.heap locs cells slots (MQ below (qPv s.heap) args s cells slots noF) (F0 m pc ls []) :=
  W.vret hx hb hr (fun t ht _ => ⟨⟨(), rfl, trivial, ht⟩, hS.F ht⟩) hS.2.2 hdg hlocks
end MYV
theorem AN_s2 {tn : Nat → Nat} {ln i : Nat} (h : i < ln) (h2 : isDg (sgn tn ln i)) : AN tn ln i = AN tn ln (i + 1) := AN_s h (by rw [sgn_in (tn := tn) h]; exact h2)
theorem AN_x2 {tn : Nat → Nat} {ln i : Nat} (h : ¬ i < ln ∨ ¬ isDg (sgn tn ln i)) : AN tn ln i = i := AN_x (fun z => h.elim (fun q => q z.1) (fun q => q (by rw [← sgn_in (tn := tn) z.1]; exact z.2)))
