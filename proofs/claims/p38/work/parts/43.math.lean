/-! ===== what the law says, in numbers ===== -/
def PIC (v : SVT) : Prop := sLo v ≤ sPi v ∧ sBi v ≤ 264 * sPi v ∧ 4 * sPi v ≤ sBi v ∧ (0 < sPi v → ∀ b, b < 4 → (sK v b = 1 → sM v b = 12) ∧ (sK v b = 2 → sM v b < 25)) ∧ (sLo v = 0 → ∀ p, p < 64 → sT v p = sG v p)
def SIM (v w : SVT) : Prop := sD v = sD w ∧ sT v = sT w ∧ sG v = sG w ∧ sK v = sK w ∧ (∀ b, ¬ sK v b = 0 → sM v b = sM w b) ∧ v.2.2.2.2.2 = w.2.2.2.2.2
theorem sZ_0 {f : Nat → Int} : ∀ n, (∀ k, k < n → f k = 0) → sZ f n = 0
  | 0, _ => rfl
  | n + 1, h => by
    show sZ f n + f n = 0
    rw [sZ_0 n (fun k hk => h k (by omega)), h n (by omega)]; rfl
theorem sZ_zero {f : Nat → Int} (h0 : ∀ k, 0 ≤ f k) : ∀ n, sZ f n ≤ 0 → ∀ k, k < n → f k = 0
  | 0, _, k, hk => absurd hk (Nat.not_lt_zero k)
  | n + 1, h, k, hk => by
    have e : sZ f (n + 1) = sZ f n + f n := rfl
    have h1 := h0 n
    have h2 : 0 ≤ sZ f n := by
      have := sZ_mono h0 (i := 0) n
      rw [Nat.zero_add] at this
      exact this
    rcases Nat.lt_succ_iff_lt_or_eq.mp hk with h3 | h3
    · exact sZ_zero h0 n (by omega) k h3
    · subst h3; omega
theorem sN_mono {f g : Nat → Nat} (h : ∀ k, f k ≤ g k) : ∀ n, sN f n ≤ sN g n
  | 0 => Nat.le_refl _
  | n + 1 => by
    have h1 := sN_mono h n
    have h2 := h n
    show sN f n + f n ≤ sN g n + g n
    omega
/-! the best move -/
theorem rk_tie : ∀ i, i < 25 → ∀ j, j < 25 → rnkN j ≤ rnkN i → lenM j < lenM i ∨ (lenM j = lenM i ∧ j ≤ i) := by decide +kernel
theorem BEST_tie (d t : Nat → Int) (b : Nat) {m : Nat} (hm : m < 25) : DIST d t b (BEST d t b) < DIST d t b m ∨ lenM (BEST d t b) < lenM m ∨ (lenM (BEST d t b) = lenM m ∧ BEST d t b ≤ m) := by
  have h := bst_key (DIST d t b) 24 (by omega) m (by omega)
  have h0 := BEST_least (d := d) (t := t) b m hm
  have h1 := BEST_lt d t b
  have r := rk_tie m hm (BEST d t b) h1
  unfold keyK at h
  have e : bst (DIST d t b) 24 = BEST d t b := rfl
  rw [e] at h
  by_cases c : DIST d t b (BEST d t b) < DIST d t b m
  · exact Or.inl c
  · exact Or.inr (r (by omega))
/-! bits and kinds -/
theorem lb_mono {x : Int} (hx : -15 ≤ x ∧ x ≤ 15) {q : Nat} (hq : 1 ≤ q ∧ q ≤ 7) : lbits (lv x (q + 1)) ≤ lbits (lv x q) := by
  have key : ∀ k : Nat, k < 31 → ∀ q : Nat, q < 7 → lbits (lv ((k : Int) - 15) (q + 1 + 1)) ≤ lbits (lv ((k : Int) - 15) (q + 1)) := by decide +kernel
  have h := key (x + 15).toNat (by omega) (q - 1) (by omega)
  have e1 : (((x + 15).toNat : Nat) : Int) - 15 = x := by omega
  have e2 : q - 1 + 1 = q := by omega
  rw [e1, e2] at h
  exact h
theorem LM_mono {d t : Nat → Int} (hd : R15 d) (ht : R15 t) (b m : Nat) {q : Nat} (hq : 1 ≤ q ∧ q ≤ 7) : LM d t b m (q + 1) 16 ≤ LM d t b m q 16 := sN_mono (fun k => lb_mono (DFm_in hd ht b m k) hq) 16
theorem btW_mono {m L L' : Nat} (h : L' ≤ L) (h0 : 16 ≤ L') : btW m L' ≤ btW m L := by
  unfold btW
  by_cases c1 : m = 12 ∧ L = 16
  · rw [if_pos c1, if_pos ⟨c1.1, by omega⟩]; exact Nat.le_refl 1
  · rw [if_neg c1]
    by_cases c2 : m = 12 ∧ L' = 16
    · rw [if_pos c2]; split <;> omega
    · rw [if_neg c2]
      split <;> split <;> omega
theorem BTM_mono {d t : Nat → Int} (hd : R15 d) (ht : R15 t) (b : Nat) {q : Nat} (hq : 1 ≤ q ∧ q ≤ 7) : BTM d t b (q + 1) ≤ BTM d t b q :=
  btW_mono (LM_mono hd ht b _ hq) (LM_in hd ht b _ (by omega) 16).1
theorem BTM_in (d t : Nat → Int) (b q : Nat) : 1 ≤ BTM d t b q ∧ BTM d t b q ≤ 66 := by
  unfold BTM btW
  split
  · omega
  · split <;> omega
theorem ABM_in (d t : Nat → Int) (q : Nat) : 4 ≤ ABM d t q 4 ∧ ABM d t q 4 ≤ 264 := by
  have h0 := BTM_in d t 0 q
  have h1 := BTM_in d t 1 q
  have h2 := BTM_in d t 2 q
  have h3 := BTM_in d t 3 q
  have e : ABM d t q 4 = 0 + BTM d t 0 q + BTM d t 1 q + BTM d t 2 q + BTM d t 3 q := rfl
  rw [e]; omega
theorem BITS_in (v : SVT) : 4 ≤ BITS v ∧ BITS v ≤ 264 := by
  unfold BITS
  split
  · omega
  · exact ABM_in _ _ _
theorem KDM_1 {d t : Nat → Int} {b q : Nat} (h : KDM d t b q = 1) : BEST d t b = 12 := by
  unfold KDM kdW at h
  split at h
  · rename_i c; exact c.1
  · split at h <;> omega
theorem KDM_2 {d t : Nat → Int} (hd : R15 d) (ht : R15 t) {b q : Nat} (hq : 1 ≤ q) (h : KDM d t b q = 2) : 22 ≤ BTM d t b q ∧ BTM d t b q ≤ 66 ∧ BTM d t b q = 6 + LM d t b (BEST d t b) q 16 ∧ ¬ (BEST d t b = 12 ∧ LM d t b (BEST d t b) q 16 = 16) := by
  have h0 := LM_in hd ht b (BEST d t b) hq 16
  unfold KDM kdW at h
  unfold BTM btW
  split at h
  · omega
  · rename_i c
    rw [if_neg c]
    split at h
    · rename_i c2
      rw [if_pos c2]
      exact ⟨by omega, by omega, rfl, c⟩
    · omega
/-- a block at no distance -/
theorem LM_0 {d t : Nat → Int} (hd : R15 d) (ht : R15 t) {b m q : Nat} (hq : 1 ≤ q) (h : DIST d t b m ≤ 0) : LM d t b m q 16 = 16 := by
  refine (ZM_LM hd ht hq 16).mp (fun j hj => ?_)
  have h1 := sZ_zero (fun k => (DT_in hd ht b m k).1) 16 h j hj
  have h2 : DFm d t b m j = 0 := by
    unfold DT at h1
    unfold DFm
    omega
  rw [h2]
  exact Int.zero_tdiv _
theorem KDM_0 {d t : Nat → Int} (hd : R15 d) (ht : R15 t) {b q : Nat} (hq : 1 ≤ q) (h : DIST d t b (BEST d t b) ≤ 0) : 0 < KDM d t b q := by
  have h1 := LM_0 hd ht hq h
  unfold KDM kdW
  rw [h1]
  split
  · omega
  · rw [if_pos (by omega)]; omega
theorem BTM_22 {d t : Nat → Int} (hd : R15 d) (ht : R15 t) {b q : Nat} (hq : 1 ≤ q) (h2 : KDM d t b q = 2) (h : DIST d t b (BEST d t b) ≤ 0) : BTM d t b q = 22 ∧ ¬ BEST d t b = 12 := by
  have h1 := LM_0 hd ht hq h
  have h3 := KDM_2 hd ht hq h2
  exact ⟨by omega, fun z => h3.2.2.2 ⟨z, h1⟩⟩
theorem KDM_c (d t : Nat → Int) (b q : Nat) : KDM d t b q = 0 ∨ KDM d t b q = 1 ∨ KDM d t b q = 2 := by have := KDM_le d t b q; omega
/-! the picture sent -/
theorem nT_1 {d t : Nat → Int} {bu : Nat} (h : COM d t bu ≤ 1) (p : Nat) : nT d t bu p = d p := by
  have h1 := COM_in d t bu
  have e : COM d t bu = 1 := by omega
  unfold nT vS
  rw [e]
  split
  · rfl
  · have e2 : lv (dN d t p) 1 = dN d t p := Int.tdiv_one _
    have e3 : dN d t p = d p - pN d t p := rfl
    rw [e2, e3]; omega
theorem nG_T {d t g : Nat → Int} (hd : R15 d) (ht : R15 t) (h : ∀ p, p < 64 → t p = g p) (bu p : Nat) : nT d t bu p = nG d t g bu p := by
  have h1 := nT_R hd ht bu p
  have e : g (fr p (mdn (BEST d t (blk p))) (mrt (BEST d t (blk p)))) = pN d t p := (h _ (fr_lt _ _ _)).symm
  unfold nT vS at h1 ⊢
  unfold nG rvS
  split
  · rfl
  · rename_i c
    rw [if_neg c] at h1
    rw [e]; omega
theorem snd_ok {lost : Nat} {v : SVT} {mo : Nat → Nat} (hv : OKS v) (hp : PIC v) (hl : lost = 0 ∨ lost = 1) : OKS (sndV lost v mo) ∧ PIC (sndV lost v mo) ∧ sPi (sndV lost v mo) = sPi v + 1 ∧ sBi (sndV lost v mo) = sBi v + BITS v := by
  obtain ⟨hd, ht, hg, hk, hbu, hkd⟩ := hv
  obtain ⟨p1, p2, p3, p4, p5⟩ := hp
  by_cases c : sPi v % sKd v = 0
  · have e : sndV lost v mo = sndK lost v mo := if_pos c
    have eb : BITS v = 264 := if_pos c
    rw [e, eb]
    refine ⟨⟨hd, hd, ?_, fun _ => Nat.zero_le 2, hbu, hkd⟩, ⟨?_, ?_, ?_, fun _ b _ => ⟨fun z => absurd (show (0 : Nat) = 1 from z) (by decide), fun z => absurd (show (0 : Nat) = 2 from z) (by decide)⟩, fun z p hp => ?_⟩, rfl, rfl⟩
    · rcases hl with rfl | rfl
      · exact hd
      · exact hg
    · show sLo v + lost ≤ sPi v + 1; omega
    · show sBi v + 264 ≤ 264 * (sPi v + 1); omega
    · show 4 * (sPi v + 1) ≤ sBi v + 264; omega
    · rcases hl with rfl | rfl
      · rfl
      · exact absurd (show sLo v + 1 = 0 from z) (by omega)
  · have e : sndV lost v mo = sndN lost v := if_neg c
    have eb : BITS v = ABM (sD v) (sT v) (COM (sD v) (sT v) (sBu v)) 4 := if_neg c
    have hb := ABM_in (sD v) (sT v) (COM (sD v) (sT v) (sBu v))
    rw [e, eb]
    refine ⟨⟨hd, nT_R hd ht _, ?_, fun b => KDM_le _ _ b _, hbu, hkd⟩, ⟨?_, ?_, ?_, fun _ b _ => ⟨fun z => KDM_1 (q := COM (sD v) (sT v) (sBu v)) z, fun _ => BEST_lt _ _ _⟩, fun z p hp => ?_⟩, rfl, rfl⟩
    · rcases hl with rfl | rfl
      · exact nG_R hd _
      · exact hg
    · show sLo v + lost ≤ sPi v + 1; omega
    · show sBi v + ABM _ _ _ 4 ≤ 264 * (sPi v + 1); omega
    · show 4 * (sPi v + 1) ≤ sBi v + ABM _ _ _ 4; omega
    · rcases hl with rfl | rfl
      · exact nG_T hd ht (p5 (show sLo v = 0 by have : sLo v + 0 = 0 := z; omega)) _ p
      · exact absurd (show sLo v + 1 = 0 from z) (by omega)
/-- sent at the finest, nothing differs -/
theorem snd_err {lost : Nat} {v : SVT} {mo : Nat → Nat} (h : COAR v ≤ 1) : sZ (fun j => (sD (sndV lost v mo) j - sT (sndV lost v mo) j) * (sD (sndV lost v mo) j - sT (sndV lost v mo) j)) 64 = 0 := by
  have key : ∀ j, sD (sndV lost v mo) j = sT (sndV lost v mo) j := by
    intro j
    by_cases c : sPi v % sKd v = 0
    · have e : sndV lost v mo = sndK lost v mo := if_pos c
      rw [e]; rfl
    · have e : sndV lost v mo = sndN lost v := if_neg c
      have e2 : COAR v = (COM (sD v) (sT v) (sBu v) : Int) := if_neg c
      have h1 : COM (sD v) (sT v) (sBu v) ≤ 1 := by omega
      rw [e]
      exact (nT_1 (d := sD v) (t := sT v) h1 j).symm
  refine sZ_0 64 (fun k _ => ?_)
  show (sD (sndV lost v mo) k - sT (sndV lost v mo) k) * (sD (sndV lost v mo) k - sT (sndV lost v mo) k) = 0
  rw [key k, Int.sub_self]; rfl
theorem drf_0 {t g : Nat → Int} (h : ∀ p, p < 64 → t p = g p) : sZ (fun j => ((t j - g j).natAbs : Int)) 64 = 0 := sZ_0 64 (fun k hk => by
  show (((t k - g k).natAbs : Nat) : Int) = 0
  rw [h k hk, Int.sub_self]; rfl)
theorem drf_e {t g : Nat → Int} (h : sZ (fun j => ((t j - g j).natAbs : Int)) 64 = 0) : ∀ p, p < 64 → t p = g p := fun p hp => by
  have h1 := sZ_zero (f := fun j => ((t j - g j).natAbs : Int)) (fun k => Int.natCast_nonneg _) 64 (by rw [h]; exact Int.le_refl 0) p hp
  have h2 : (((t p - g p).natAbs : Nat) : Int) = 0 := h1
  omega
/-- a key picture that is received; a picture received where nothing had drifted -/
theorem snd_key {v : SVT} {mo : Nat → Nat} (c : sPi v % sKd v = 0) : ∀ p, p < 64 → sT (sndV 0 v mo) p = sG (sndV 0 v mo) p := fun p _ => by
  have e : sndV 0 v mo = sndK 0 v mo := if_pos c
  rw [e]; rfl
theorem snd_drf {v : SVT} {mo : Nat → Nat} (hv : OKS v) (c : ¬ sPi v % sKd v = 0) (h : ∀ p, p < 64 → sT v p = sG v p) : ∀ p, p < 64 → sT (sndV 0 v mo) p = sG (sndV 0 v mo) p := fun p _ => by
  have e : sndV 0 v mo = sndN 0 v := if_neg c
  rw [e]
  exact nG_T hv.1 hv.2.1 h _ p
/-! the changes -/
theorem chV_ok {how : Nat} {x y z : Int32} {v : SVT} {mo : Nat → Nat} (hv : OKS v) (hp : PIC v) (h3 : how = 3 → x = nI 0 ∨ x = nI 1) (hc : chT how x y z = 0) (hh : how ≤ 5) : OKS (chV how x y z v mo) ∧ PIC (chV how x y z v mo) ∧ sPi (chV how x y z v mo) ≤ sPi v + 1 := by
  have hv0 := hv
  obtain ⟨hd, ht, hg, hk, hbu, hkd⟩ := hv
  rcases (show how = 0 ∨ how = 1 ∨ how = 2 ∨ how = 3 ∨ how = 4 ∨ how = 5 by omega) with rfl | rfl | rfl | rfl | rfl | rfl
  · rw [chT0] at hc
    split at hc
    · split at hc
      · rename_i c2
        exact ⟨⟨R15_up hd _ c2.1 c2.2, ht, hg, hk, hbu, hkd⟩, hp, Nat.le_succ _⟩
      · cases hc
    · cases hc
  · rw [chT1] at hc
    split at hc
    · split at hc
      · rename_i c2
        exact ⟨⟨rrow_R (x := (sD v, 0)) hd c2.2.2 _, ht, hg, hk, hbu, hkd⟩, hp, Nat.le_succ _⟩
      · cases hc
    · cases hc
  · exact ⟨⟨tkm_R hd hd 64, ht, hg, hk, hbu, hkd⟩, hp, Nat.le_succ _⟩
  · have hl : x.toInt.toNat = 0 ∨ x.toInt.toNat = 1 := by
      rcases h3 rfl with rfl | rfl
      · exact Or.inl (by decide)
      · exact Or.inr (by decide)
    obtain ⟨h1, h2, h4, _⟩ := snd_ok (mo := mo) hv0 hp hl
    exact ⟨h1, h2, Nat.le_of_eq h4⟩
  · rw [chT4] at hc
    split at hc
    · rename_i c1
      refine ⟨⟨hd, ht, hg, hk, ?_, hkd⟩, hp, Nat.le_succ _⟩
      show x.toInt.toNat ≤ 300; omega
    · cases hc
  · rw [chT5] at hc
    split at hc
    · rename_i c1
      refine ⟨⟨hd, ht, hg, hk, hbu, ?_⟩, hp, Nat.le_succ _⟩
      show 1 ≤ x.toInt.toNat ∧ x.toInt.toNat ≤ 20; omega
    · cases hc
theorem SIM_rf (v : SVT) : SIM v v := ⟨rfl, rfl, rfl, rfl, fun _ _ => rfl, rfl⟩
theorem SIM_ch {how : Nat} {x y z : Int32} {v w : SVT} {mo mo' : Nat → Nat} (h : SIM v w) (hh : how ≤ 5) : SIM (chV how x y z v mo) (chV how x y z w mo') ∧ chR how x y z v = chR how x y z w := by
  obtain ⟨d, t, g, k, m, bu, kd, pi, lo9, bi⟩ := v
  obtain ⟨d', t', g', k', m', bu', kd', pi', lo', bi'⟩ := w
  obtain ⟨e1, e2, e3, e4, e5, e6⟩ := h
  have e1 : d = d' := e1
  have e2 : t = t' := e2
  have e3 : g = g' := e3
  have e4 : k = k' := e4
  have e6 : (bu, kd, pi, lo9, bi) = (bu', kd', pi', lo', bi') := e6
  subst e1; subst e2; subst e3; subst e4
  cases e6
  rcases (show how = 0 ∨ how = 1 ∨ how = 2 ∨ how = 3 ∨ how = 4 ∨ how = 5 by omega) with rfl | rfl | rfl | rfl | rfl | rfl
  · exact ⟨⟨rfl, rfl, rfl, rfl, e5, rfl⟩, rfl⟩
  · exact ⟨⟨rfl, rfl, rfl, rfl, e5, rfl⟩, rfl⟩
  · exact ⟨⟨rfl, rfl, rfl, rfl, e5, rfl⟩, rfl⟩
  · refine ⟨?_, rfl⟩
    by_cases c : pi % kd = 0
    · have f1 : ∀ (m9 mo9 : Nat → Nat), chV 3 x y z (d, t, g, k, m9, bu, kd, pi, lo9, bi) mo9 = sndK x.toInt.toNat (d, t, g, k, m9, bu, kd, pi, lo9, bi) mo9 := fun _ _ => if_pos c
      rw [f1, f1]
      exact ⟨rfl, rfl, rfl, rfl, fun b hb => absurd rfl hb, rfl⟩
    · have f1 : ∀ (m9 mo9 : Nat → Nat), chV 3 x y z (d, t, g, k, m9, bu, kd, pi, lo9, bi) mo9 = sndN x.toInt.toNat (d, t, g, k, m9, bu, kd, pi, lo9, bi) := fun _ _ => if_neg c
      rw [f1, f1]
      exact ⟨rfl, rfl, rfl, rfl, fun b _ => rfl, rfl⟩
  · exact ⟨⟨rfl, rfl, rfl, rfl, e5, rfl⟩, rfl⟩
  · exact ⟨⟨rfl, rfl, rfl, rfl, e5, rfl⟩, rfl⟩
theorem SIM_b {v w : SVT} (h : SIM v w) : BITS v = BITS w ∧ sPi v = sPi w ∧ sLo v = sLo w ∧ sBi v = sBi w := by
  obtain ⟨d, t, g, k, m, bu, kd, pi, lo9, bi⟩ := v
  obtain ⟨d', t', g', k', m', bu', kd', pi', lo', bi'⟩ := w
  obtain ⟨e1, e2, e3, e4, e5, e6⟩ := h
  have e1 : d = d' := e1
  have e2 : t = t' := e2
  have e6 : (bu, kd, pi, lo9, bi) = (bu', kd', pi', lo', bi') := e6
  subst e1; subst e2
  cases e6
  exact ⟨rfl, rfl, rfl, rfl⟩
theorem SIM_tr {u v w : SVT} (h1 : SIM u v) (h2 : SIM v w) : SIM u w := by
  obtain ⟨a1, a2, a3, a4, a5, a6⟩ := h1
  obtain ⟨b1, b2, b3, b4, b5, b6⟩ := h2
  exact ⟨a1.trans b1, a2.trans b2, a3.trans b3, a4.trans b4, fun b hb => (a5 b hb).trans (b5 b (by rw [← a4]; exact hb)), a6.trans b6⟩
