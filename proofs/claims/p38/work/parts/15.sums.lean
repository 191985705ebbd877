/-! ===== the two ways of finding the best move agree; the picture that is sent ===== -/
def rnkN : Nat → Nat := fun j => ([21, 13, 5, 14, 22, 15, 6, 1, 7, 16, 8, 2, 0, 3, 9, 17, 10, 4, 11, 18, 23, 19, 12, 20, 24] : List Nat).getD j 0
theorem rnk_lt : ∀ k, k < 25 → rnkN k < 25 := by decide +kernel
theorem rnk_short : ∀ k, k < 25 → rnkN (shortN k) = k := by decide +kernel
theorem short_rnk : ∀ k, k < 25 → shortN (rnkN k) = k := by decide +kernel
theorem rnk_len : ∀ i, i < 25 → ∀ j, j < i → (rnkN i < rnkN j ↔ lenM i < lenM j) := by decide +kernel
def keyK (D : Nat → Int) (m : Nat) : Int := 25 * D m + (rnkN m : Int)
theorem keyK_inj {D : Nat → Int} {x y : Nat} (hx : x < 25) (hy : y < 25) (h : keyK D x = keyK D y) : x = y := by
  have h1 := rnk_lt x hx
  have h2 := rnk_lt y hy
  unfold keyK at h
  have e : rnkN x = rnkN y := by omega
  rw [← short_rnk x hx, ← short_rnk y hy, e]
theorem bst_key (D : Nat → Int) : ∀ k, k < 25 → ∀ m, m ≤ k → keyK D (bst D k) ≤ keyK D m
  | 0, _, m, hm => by
    have e : m = 0 := by omega
    subst e; exact Int.le_refl _
  | k + 1, hk, m, hm => by
    have hl := bst_le D k
    have ih := bst_key D k (by omega)
    have hr := rnk_len (k + 1) hk (bst D k) (by omega)
    have r1 := rnk_lt (k + 1) hk
    have r2 := rnk_lt (bst D k) (by omega)
    by_cases c : D (k + 1) < D (bst D k) ∨ (D (k + 1) = D (bst D k) ∧ lenM (k + 1) < lenM (bst D k))
    · rw [bst_y c]
      by_cases e : m = k + 1
      · subst e; exact Int.le_refl _
      · have h1 := ih m (by omega)
        unfold keyK at *
        rcases c with c | ⟨c, c2⟩
        · omega
        · have := hr.mpr c2; omega
    · rw [bst_n c]
      by_cases e : m = k + 1
      · subst e
        have c2 : rnkN (bst D k) ≤ rnkN (k + 1) ∨ D (bst D k) < D (k + 1) := by
          by_cases h3 : D (bst D k) < D (k + 1)
          · exact Or.inr h3
          · refine Or.inl ?_
            rcases Nat.lt_or_ge (rnkN (k + 1)) (rnkN (bst D k)) with h4 | h4
            · exact absurd (Or.inr ⟨by omega, hr.mp h4⟩) c
            · exact h4
        have c3 : ¬ D (k + 1) < D (bst D k) := fun z => c (Or.inl z)
        unfold keyK
        omega
      · exact ih m (by omega)
theorem sZ_mono {f : Nat → Int} (h : ∀ k, 0 ≤ f k) {i : Nat} : ∀ n, sZ f i ≤ sZ f (i + n)
  | 0 => Int.le_refl _
  | n + 1 => by
    have h1 := sZ_mono h (i := i) n
    have h2 := h (i + n)
    show sZ f i ≤ sZ f (i + n) + f (i + n)
    omega
theorem utI_D {F : Nat → Int} (hF : ∀ k, 0 ≤ F k) (lim : Int) : ∀ n i, i + n = 16 → (utI F lim n i < lim → utI F lim n i = sZ F 16) ∧ (¬ utI F lim n i < lim → lim ≤ sZ F 16)
  | 0, i, h => by
    have e : i = 16 := by omega
    subst e
    exact ⟨fun _ => rfl, fun z => Int.not_lt.mp z⟩
  | n + 1, i, h => by
    unfold utI
    by_cases c : sZ F i < lim
    · rw [if_pos c]; exact utI_D hF lim n (i + 1) (by omega)
    · rw [if_neg c]
      refine ⟨fun z => absurd z c, fun _ => ?_⟩
      have h1 := sZ_mono hF (i := i) (n + 1)
      rw [h] at h1
      omega
theorem bsS_key {d t : Nat → Int} (hd : R15 d) (ht : R15 t) (b : Nat) : ∀ k, k < 25 → ∃ j, j ≤ k ∧ (bsS d t b (k + 1)).1 = shortN j ∧ (bsS d t b (k + 1)).2 = DIST d t b (shortN j) ∧ ∀ i, i ≤ k → keyK (DIST d t b) (shortN j) ≤ keyK (DIST d t b) (shortN i)
  | 0, _ => by
    have hu := utI_D (F := DT d t b (shortN 0)) (fun k => (DT_in hd ht b (shortN 0) k).1) (bsS d t b 0).2 16 0 rfl
    have hD := DIST_in hd ht b (shortN 0)
    have hc : utI (DT d t b (shortN 0)) (bsS d t b 0).2 16 0 < (bsS d t b 0).2 := by
      rcases Int.lt_or_le (utI (DT d t b (shortN 0)) (bsS d t b 0).2 16 0) (bsS d t b 0).2 with h | h
      · exact h
      · have h5 := hu.2 (Int.not_lt.mpr h)
        have e0 : (bsS d t b 0).2 = 241 := rfl
        rw [e0] at h5
        unfold DIST at hD; omega
    rw [bsS_y hc]
    have e3 : utI (DT d t b (shortN 0)) (bsS d t b 0).2 16 0 = DIST d t b (shortN 0) := hu.1 hc
    generalize bsS d t b 0 = z9 at e3 ⊢
    refine ⟨0, Nat.le_refl 0, rfl, e3, fun i hi => ?_⟩
    have e : i = 0 := by omega
    subst e; exact Int.le_refl _
  | k + 1, hk => by
    obtain ⟨j, hj, e1, e2, h3⟩ := bsS_key hd ht b k (by omega)
    have hu := utI_D (F := DT d t b (shortN (k + 1))) (fun i => (DT_in hd ht b (shortN (k + 1)) i).1) (bsS d t b (k + 1)).2 16 0 rfl
    have r1 := rnk_short j (by omega)
    have r2 := rnk_short (k + 1) hk
    by_cases c : utI (DT d t b (shortN (k + 1))) (bsS d t b (k + 1)).2 16 0 < (bsS d t b (k + 1)).2
    · rw [bsS_y c]
      have e3 : utI (DT d t b (shortN (k + 1))) (bsS d t b (k + 1)).2 16 0 = DIST d t b (shortN (k + 1)) := hu.1 c
      refine ⟨k + 1, Nat.le_refl _, rfl, e3, fun i hi => ?_⟩
      rw [e3, e2] at c
      by_cases hi2 : i = k + 1
      · subst hi2; exact Int.le_refl _
      · have h4 := h3 i (by omega)
        unfold keyK at *
        omega
    · rw [bsS_n c]
      have e3 : (bsS d t b (k + 1)).2 ≤ DIST d t b (shortN (k + 1)) := hu.2 c
      rw [e2] at e3
      refine ⟨j, by omega, e1, e2, fun i hi => ?_⟩
      by_cases hi2 : i = k + 1
      · subst hi2; unfold keyK; omega
      · exact h3 i (by omega)
theorem bsS_BEST {d t : Nat → Int} (hd : R15 d) (ht : R15 t) (b : Nat) : (bsS d t b 25).1 = BEST d t b := by
  obtain ⟨j, hj, e1, _, h3⟩ := bsS_key hd ht b 24 (by omega)
  have hb := BEST_lt d t b
  have hj2 := shortN_lt (k := j) (by omega)
  rw [e1]
  refine keyK_inj (D := DIST d t b) hj2 hb (Int.le_antisymm ?_ ?_)
  · have := h3 (rnkN (BEST d t b)) (by have := rnk_lt _ hb; omega)
    rw [short_rnk _ hb] at this
    exact this
  · exact bst_key _ 24 (by omega) _ (by omega)
theorem BEST_least {d t : Nat → Int} (b m : Nat) (hm : m < 25) : DIST d t b (BEST d t b) ≤ DIST d t b m := by
  have h := bst_key (DIST d t b) 24 (by omega) m (by omega)
  have h1 := rnk_lt _ (BEST_lt d t b)
  have h2 := rnk_lt m hm
  unfold keyK at h
  show DIST d t b (bst (DIST d t b) 24) ≤ _
  unfold BEST at h1
  omega
/-- how many of the first have the distance z -/
def cntE (D : Nat → Int) (z : Int) : Nat → Nat
  | 0 => 0
  | k + 1 => cntE D z k + (if D k = z then 1 else 0)
theorem cntE_0 {D : Nat → Int} {z : Int} : ∀ k, (∀ j, j < k → z < D j) → cntE D z k = 0
  | 0, _ => rfl
  | k + 1, h => by
    have h1 := cntE_0 k (fun j hj => h j (by omega))
    have h2 := h k (Nat.lt_succ_self k)
    show cntE D z k + _ = 0
    rw [h1, if_neg (by omega)]
theorem cnt_E {D : Nat → Int} (h : ∀ m, 0 ≤ D m ∧ D m ≤ 240) : ∀ k, (∀ j, j < k → (cnt D k).2 ≤ D j) ∧ (cnt D k).1 = cntE D (cnt D k).2 k ∧ (0 < k → ∃ j, j < k ∧ (cnt D k).2 = D j)
  | 0 => ⟨fun j hj => absurd hj (Nat.not_lt_zero j), rfl, fun z => absurd z (Nat.lt_irrefl 0)⟩
  | k + 1 => by
    obtain ⟨h1, h2, h3⟩ := cnt_E h k
    have hk := h k
    by_cases c : D k < (cnt D k).2
    · rw [cnt_y c]
      refine ⟨fun j hj => ?_, ?_, fun _ => ⟨k, Nat.lt_succ_self k, rfl⟩⟩
      · rcases Nat.lt_succ_iff_lt_or_eq.mp hj with h4 | h4
        · have := h1 j h4
          show D k ≤ D j; omega
        · subst h4; exact Int.le_refl _
      · show 1 = cntE D (D k) k + _
        rw [cntE_0 k (fun j hj => by have := h1 j hj; omega), if_pos rfl]
    · by_cases c2 : D k = (cnt D k).2
      · rw [cnt_e c c2]
        refine ⟨fun j hj => ?_, ?_, fun _ => ⟨k, Nat.lt_succ_self k, c2.symm⟩⟩
        · rcases Nat.lt_succ_iff_lt_or_eq.mp hj with h4 | h4
          · exact h1 j h4
          · subst h4; show (cnt D j).2 ≤ D j; omega
        · show (cnt D k).1 + 1 = cntE D (cnt D k).2 k + _
          rw [if_pos c2, h2]
      · rw [cnt_n c c2]
        refine ⟨fun j hj => ?_, ?_, fun _ => ?_⟩
        · rcases Nat.lt_succ_iff_lt_or_eq.mp hj with h4 | h4
          · exact h1 j h4
          · subst h4; omega
        · show (cnt D k).1 = cntE D (cnt D k).2 k + _
          rw [if_neg c2, h2]; rfl
        · by_cases hk0 : 0 < k
          · obtain ⟨j, hj, e⟩ := h3 hk0
            exact ⟨j, by omega, e⟩
          · have e : k = 0 := by omega
            subst e
            exact absurd (show D 0 < 241 by omega) c
theorem cnt_BEST {d t : Nat → Int} (hd : R15 d) (ht : R15 t) (b : Nat) : (cnt (DIST d t b) 25).1 = cntE (DIST d t b) (DIST d t b (BEST d t b)) 25 := by
  obtain ⟨h1, h2, h3⟩ := cnt_E (DIST_in hd ht b) 25
  obtain ⟨j, hj, e⟩ := h3 (by omega)
  have e2 : (cnt (DIST d t b) 25).2 = DIST d t b (BEST d t b) := Int.le_antisymm (h1 _ (BEST_lt d t b)) (by rw [e]; exact BEST_least b j hj)
  rw [h2, e2]
/-- what a pixel's value sent, and received, is -/
def vS (d pr df : Nat → Int) (co k p : Nat) : Int := if k = 0 then d p else pr p + (co : Int) * lv (df p) co
def rvS (d bf df : Nat → Int) (co k m p : Nat) : Int := if k = 0 then d p else max 0 (min (bf (fr p (mdn m) (mrt m)) + (co : Int) * lv (df p) co) 15)
theorem vS_0 {d pr df : Nat → Int} {co k p : Nat} (h : k = 0) : d p = vS d pr df co k p := (if_pos h).symm
theorem vS_n {d pr df : Nat → Int} {co k p : Nat} (h : ¬ k = 0) : pr p + (co : Int) * lv (df p) co = vS d pr df co k p := (if_neg h).symm
theorem rvS_0 {d bf df : Nat → Int} {co k m p : Nat} (h : k = 0) : d p = rvS d bf df co k m p := (if_pos h).symm
theorem rvS_n {d bf df : Nat → Int} {co k m p : Nat} (h : ¬ k = 0) : max 0 (min (bf (fr p (mdn m) (mrt m)) + (co : Int) * lv (df p) co) 15) = rvS d bf df co k m p := (if_neg h).symm
theorem ad15 {x : Int} (q : Nat) (hx : -15 ≤ x ∧ x ≤ 15) : -15 ≤ (q : Int) * lv x q ∧ (q : Int) * lv x q ≤ 15 := by
  have h := adZ_in q hx
  have e : adZ x q = (q : Int) * lv x q := rfl
  rw [e] at h
  rcases Int.le_total 0 x with h0 | h0
  · have := h.1 h0; omega
  · have := h.2 h0; omega
def rwN (f old : Nat → Nat) : Nat → Nat → Nat
  | 0 => old
  | n + 1 => va_up (rwN f old n) n (f n)
theorem rwN_at {f old : Nat → Nat} : ∀ n b, b < n → rwN f old n b = f b
  | 0, b, h => absurd h (Nat.not_lt_zero b)
  | n + 1, b, h => by
    show va_up (rwN f old n) n (f n) b = _
    by_cases e : b = n
    · subst e; simp [va_up]
    · simp [va_up, e]; exact rwN_at n b (by omega)
/-- the plan of a picture that is no key picture -/
def pN (d t : Nat → Int) : Nat → Int := fun p => t (fr p (mdn (BEST d t (blk p))) (mrt (BEST d t (blk p))))
def dN (d t : Nat → Int) : Nat → Int := fun p => d p - pN d t p
def knN (d t : Nat → Int) (bu b : Nat) : Nat := KDM d t b (COM d t bu)
def nT (d t : Nat → Int) (bu p : Nat) : Int := vS d (pN d t) (dN d t) (COM d t bu) (knN d t bu (blk p)) p
def nG (d t g : Nat → Int) (bu p : Nat) : Int := rvS d g (dN d t) (COM d t bu) (knN d t bu (blk p)) (BEST d t (blk p)) p
theorem COM_in (d t : Nat → Int) (bu : Nat) : 1 ≤ COM d t bu ∧ COM d t bu ≤ 8 := COA_in _ _
theorem dN_D {d t : Nat → Int} (hd : R15 d) (ht : R15 t) : D15 (dN d t) := fun p => by
  have h1 := hd p
  have h2 := ht (fr p (mdn (BEST d t (blk p))) (mrt (BEST d t (blk p))))
  show -15 ≤ d p - t _ ∧ d p - t _ ≤ 15
  omega
theorem BEST_M (d t : Nat → Int) : M25 (BEST d t) := fun b => BEST_lt d t b
theorem df4_dN (d t df : Nat → Int) {p : Nat} (hp : p < 64) : dfS d t df 4 p = dN d t p := by
  rw [dfS_eq, sdP_4 hp]; rfl
theorem nT_R {d t : Nat → Int} (hd : R15 d) (ht : R15 t) (bu : Nat) : R15 (nT d t bu) := by
  intro p
  have h1 := hd p
  have h2 := ht (fr p (mdn (BEST d t (blk p))) (mrt (BEST d t (blk p))))
  unfold nT vS
  split
  · exact h1
  · have h3 := adZ_in (COM d t bu) (x := dN d t p) (dN_D hd ht p)
    have e : adZ (dN d t p) (COM d t bu) = (COM d t bu : Int) * lv (dN d t p) (COM d t bu) := rfl
    rw [e] at h3
    have e2 : dN d t p = d p - t (fr p (mdn (BEST d t (blk p))) (mrt (BEST d t (blk p)))) := rfl
    have e3 : pN d t p = t (fr p (mdn (BEST d t (blk p))) (mrt (BEST d t (blk p)))) := rfl
    rw [e3]
    generalize (COM d t bu : Int) * lv (dN d t p) (COM d t bu) = z at *
    rcases Int.le_total 0 (dN d t p) with h0 | h0
    · have := h3.1 h0; omega
    · have := h3.2 h0; omega
theorem nG_R {d t g : Nat → Int} (hd : R15 d) (bu : Nat) : R15 (nG d t g bu) := by
  intro p
  have h1 := hd p
  unfold nG rvS
  split
  · exact h1
  · omega
section MYW
variable {p : Program} {l : Launch} {e : Env} {R : Room} {s : State} {m : MethodId} {args : Array Value} {below : List Frame} {meth : Method} {c : Code} {H : Heap} {locs : List Loc} {cells slots : Nat} {Q : State → Prop}
variable {cc : ByteArray} {pc : Nat} {ls : Array Slot} {rest st0 : List Value} {a : Array Value} {A0 A1 : Nat → Prop} {H0 : Heap} {mc ms : Nat} {G : GT}
/-- a call with the whole world -/
theorem kWv {S : Type} {post : S → Prop} {w1 : S → va_W} {ws : va_W} (hr : va_Run p l e R s m args below meth c H locs cells slots mc ms (F0 m pc ls st0) rest (qMv G post w1 ws H a) (va_A ws H.size)) (hP : PP G ws H) (hD : va_D A0 ws) (hS : va_S A0 H0 H locs) (hA : ∀ q, H0.size ≤ q → A0 q)
    (hf : ∀ u, (w1 u).map Prod.fst = ws.map Prod.fst)
    (kk : ∀ (u : S) (H1 : Heap) (locs1 : List Loc), post u → PP G (w1 u) H1 → va_D A0 (w1 u) → va_S A0 H0 H1 locs1 → W p l e R s m args below meth c H1 locs1 (cells + mc) (slots + ms) Q (F0 m (pc + 3) ls rest)) : W p l e R s m args below meth c H locs cells slots Q (F0 m pc ls st0) := by
  refine va_callv hr hS (fun q _ h => ?_) (fun q h => ?_) (fun u t H1 locs1 ht _ hr hB _ hk hS1 => ?_)
  · rcases h with ⟨k, e9, he⟩ | hz
    · exact hD.2 k _ he
    · exact hA q (Nat.le_trans hS.1 hz)
  · rcases h with ⟨k, e9, he⟩ | hz
    · exact hD.2 k _ he
    · exact hA q (Nat.le_trans hS.1 hz)
  · rw [ht] at hB
    exact kk u H1 locs1 hr hB (hD.fst (hf u)) hS1
theorem kWi {S : Type} {post : Int32 → S → Prop} {w1 : S → va_W} {ws : va_W} (hr : va_Run p l e R s m args below meth c H locs cells slots mc ms (F0 m pc ls st0) rest (qMi G post w1 ws H a) (va_A ws H.size)) (hP : PP G ws H) (hD : va_D A0 ws) (hS : va_S A0 H0 H locs) (hA : ∀ q, H0.size ≤ q → A0 q)
    (hf : ∀ u, (w1 u).map Prod.fst = ws.map Prod.fst)
    (kk : ∀ (r : Int32) (u : S) (H1 : Heap) (locs1 : List Loc), post r u → PP G (w1 u) H1 → va_D A0 (w1 u) → va_S A0 H0 H1 locs1 → W p l e R s m args below meth c H1 locs1 (cells + mc) (slots + ms) Q (F0 m (pc + 3) ls (.int r :: rest))) : W p l e R s m args below meth c H locs cells slots Q (F0 m pc ls st0) := by
  refine va_calli hr hS (fun q _ h => ?_) (fun q h => ?_) (fun r u t H1 locs1 ht _ hr hB _ hk hS1 => ?_)
  · rcases h with ⟨k, e9, he⟩ | hz
    · exact hD.2 k _ he
    · exact hA q (Nat.le_trans hS.1 hz)
  · rcases h with ⟨k, e9, he⟩ | hz
    · exact hD.2 k _ he
    · exact hA q (Nat.le_trans hS.1 hz)
  · rw [ht] at hB
    exact kk r u H1 locs1 hr hB (hD.fst (hf u)) hS1
end MYW
