/-! ===== what holds between the class and the reference, at every call ===== -/
def rw8 (hi : Nat → Int) (i : Nat) : Nat → Int := fun j => hi (205 * i + j)
def AG (s s' : Nat → Int) : Prop := ∀ j, j < 205 → s j = s' j
theorem vOf_ag {s s' : Nat → Int} {k o : Nat → Nat} (h : AG s s') : vOf s k o = vOf s' k o := by
  have e1 : dS s = dS s' := funext fun j => h _ (by omega)
  have e2 : tS s = tS s' := funext fun j => h _ (by omega)
  have e3 : rS s = rS s' := funext fun j => h _ (by omega)
  unfold vOf
  rw [e1, e2, e3, h 192 (by omega), h 193 (by omega), h 194 (by omega), h 195 (by omega), h 196 (by omega)]
theorem MR_ag {s s' : Nat → Int} (h : AG s s') (hM : MR s) : MR s' := by
  obtain ⟨g1, g2, g3, g4, g5, g6⟩ := hM
  rw [h 192 (by omega)] at g2
  rw [h 193 (by omega)] at g3
  rw [h 194 (by omega)] at g4 g5 g6
  rw [h 195 (by omega)] at g5
  rw [h 196 (by omega)] at g6
  exact ⟨fun j hj => by rw [← h j (by omega)]; exact g1 j hj, g2, g3, g4, g5, g6⟩
theorem KO_ag2 {s s' : Nat → Int} {k o : Nat → Nat} (h : AG s s') (hK : KO s k o) : KO s' k o := KO_ag hK (fun j _ h2 => (h j h2).symm)
def GV (v : SVT) (s : Nat → Int) : Prop := ∃ k o : Nat → Nat, v = vOf s k o ∧ MR s ∧ KO s k o
theorem GV_ag {v : SVT} {s s' : Nat → Int} (h : AG s s') (g : GV v s) : GV v s' := by
  obtain ⟨k, o, h1, h2, h3⟩ := g
  exact ⟨k, o, h1.trans (vOf_ag h), MR_ag h h2, KO_ag2 h h3⟩
def HR (nx kn : Nat) (hv : Nat → SVT) (hi : Nat → Int) : Prop := ∀ i, i < kn → GV (hv ((nx + 6 - kn + i) % 6)) (rw8 hi i)
theorem cpH_at (hi s : Nat → Int) (base j : Nat) : ∀ n, cpH hi s base n j = if base ≤ j ∧ j < base + n then s (j - base) else hi j
  | 0 => by rw [if_neg (by omega)]; rfl
  | n + 1 => by
    show va_up (cpH hi s base n) (base + n) (s n) j = _
    by_cases e : j = base + n
    · subst e
      rw [va_up_self, if_pos (by omega)]
      congr 1; omega
    · rw [va_up_ne _ _ e, cpH_at hi s base j n]
      by_cases c : base ≤ j ∧ j < base + n
      · rw [if_pos c, if_pos (by omega)]
      · rw [if_neg c, if_neg (by omega)]
theorem shH_at (hi : Nat → Int) (j : Nat) : ∀ k, shH hi k j = if j < k then hi (j + 205) else hi j
  | 0 => by rw [if_neg (by omega)]; rfl
  | k + 1 => by
    show va_up (shH hi k) k (shH hi k (k + 205)) j = _
    by_cases e : j = k
    · subst e
      rw [va_up_self, if_pos (by omega), shH_at hi (j + 205) j, if_neg (by omega)]
    · rw [va_up_ne _ _ e, shH_at hi j k]
      by_cases c : j < k
      · rw [if_pos c, if_pos (by omega)]
      · rw [if_neg c, if_neg (by omega)]
theorem cpS_at (s hi : Nat → Int) (base j : Nat) : ∀ n, cpS s hi base n j = if j < n then hi (base + j) else s j
  | 0 => by rw [if_neg (by omega)]; rfl
  | n + 1 => by
    show va_up (cpS s hi base n) n (hi (base + n)) j = _
    by_cases e : j = n
    · subst e; rw [va_up_self, if_pos (by omega)]
    · rw [va_up_ne _ _ e, cpS_at s hi base j n]
      by_cases c : j < n
      · rw [if_pos c, if_pos (by omega)]
      · rw [if_neg c, if_neg (by omega)]
theorem cpS_ag (s hi : Nat → Int) (i : Nat) : AG (rw8 hi i) (cpS s hi (205 * i) 205) := fun j hj => by
  rw [cpS_at, if_pos hj]; rfl
theorem HR_rec {nx kn : Nat} {hv : Nat → SVT} {hi ss : Nat → Int} {v : SVT} (hnx : nx < 6) (hkn : kn ≤ 6) (h : HR nx kn hv hi) (g : GV v ss) : HR ((nx + 1) % 6) (min (kn + 1) 6) (va_up hv nx v) (recH hi ss kn) := by
  intro i hi9
  by_cases c : kn = 6
  · subst c
    have em : min (6 + 1) 6 = 6 := rfl
    rw [em] at hi9 ⊢
    by_cases c5 : i = 5
    · subst c5
      have e : ((nx + 1) % 6 + 6 - 6 + 5) % 6 = nx := by omega
      rw [e, va_up_self]
      refine GV_ag (fun j hj => ?_) g
      show ss j = recH hi ss 6 (205 * 5 + j)
      rw [recH_6 rfl, cpH_at, if_pos (by omega)]
      exact congrArg ss (by omega)
    · have e : ((nx + 1) % 6 + 6 - 6 + i) % 6 = (nx + 6 - 6 + (i + 1)) % 6 := by omega
      have ne : ¬ (nx + 6 - 6 + (i + 1)) % 6 = nx := by omega
      rw [e, va_up_ne _ _ ne]
      refine GV_ag (fun j hj => ?_) (h (i + 1) (by omega))
      show hi (205 * (i + 1) + j) = recH hi ss 6 (205 * i + j)
      rw [recH_6 rfl, cpH_at, if_neg (by omega), shH_at, if_pos (by omega)]
      congr 1; omega
  · have em : min (kn + 1) 6 = kn + 1 := by omega
    rw [em] at hi9 ⊢
    by_cases ci : i = kn
    · subst ci
      have e : ((nx + 1) % 6 + 6 - (i + 1) + i) % 6 = nx := by omega
      rw [e, va_up_self]
      refine GV_ag (fun j hj => ?_) g
      show ss j = recH hi ss i (205 * i + j)
      rw [recH_n c, cpH_at, if_pos (by omega)]
      exact congrArg ss (by omega)
    · have e : ((nx + 1) % 6 + 6 - (kn + 1) + i) % 6 = (nx + 6 - kn + i) % 6 := by omega
      have ne : ¬ (nx + 6 - kn + i) % 6 = nx := by omega
      rw [e, va_up_ne _ _ ne]
      refine GV_ag (fun j hj => ?_) (h i (by omega))
      show hi (205 * i + j) = recH hi ss kn (205 * i + j)
      rw [recH_n c, cpH_at, if_neg (by omega)]
theorem HR_undo {nx kn : Nat} {hv : Nat → SVT} {hi : Nat → Int} (hnx : nx < 6) (hkn : 1 ≤ kn ∧ kn ≤ 6) (h : HR nx kn hv hi) : HR ((nx + 6 - 1) % 6) (kn - 1) hv hi ∧ GV (hv ((nx + 6 - 1) % 6)) (rw8 hi (kn - 1)) := by
  constructor
  · intro i hi9
    have e : ((nx + 6 - 1) % 6 + 6 - (kn - 1) + i) % 6 = (nx + 6 - kn + i) % 6 := by omega
    rw [e]; exact h i (by omega)
  · have e : (nx + 6 - kn + (kn - 1)) % 6 = (nx + 6 - 1) % 6 := by omega
    have := h (kn - 1) (by omega)
    rw [e] at this
    exact this
def SLR (ke : Nat) (sl : Nat → Int) (v0 : SVT) (k0 : Nat) (v1 : SVT) (k1 : Nat) : Prop := k0 ≤ 1 ∧ k1 ≤ 1 ∧ ke = k0 + 2 * k1 ∧ (k0 = 1 → GV v0 (rw8 sl 0)) ∧ (k1 = 1 → GV v1 (rw8 sl 1))
def REL (ss hi sl : Nat → Int) (tx : Nat → Nat) (kn ke le : Nat) (k o mo : Nat → Nat) (df : Nat → Int) (nx : Nat) (hv : Nat → SVT) (v0 : SVT) (k0 : Nat) (v1 : SVT) (k1 : Nat) : Prop :=
  MR ss ∧ KO ss k o ∧ M25 mo ∧ D15 df ∧ T128 tx ∧ le ≤ 80 ∧ nx < 6 ∧ kn ≤ 6 ∧ HR nx kn hv hi ∧ SLR ke sl v0 k0 v1 k1
theorem SL_s0 {ke : Nat} {sl ss : Nat → Int} {v v0 v1 : SVT} {k0 k1 : Nat} (h : SLR ke sl v0 k0 v1 k1) (g : GV v ss) : SLR (ke ||| 1) (cpH sl ss (205 * 0) 205) v 1 v1 k1 := by
  obtain ⟨h1, h2, h3, h4, h5⟩ := h
  refine ⟨Nat.le_refl 1, h2, ?_, fun _ => GV_ag (fun j hj => ?_) g, fun z => GV_ag (fun j hj => ?_) (h5 z)⟩
  · rcases (show (k0 = 0 ∨ k0 = 1) ∧ (k1 = 0 ∨ k1 = 1) by omega) with ⟨rfl | rfl, rfl | rfl⟩ <;> rw [h3] <;> rfl
  · show ss j = cpH sl ss (205 * 0) 205 (205 * 0 + j)
    rw [cpH_at, if_pos (by omega)]; exact congrArg ss (by omega)
  · show sl (205 * 1 + j) = cpH sl ss (205 * 0) 205 (205 * 1 + j)
    rw [cpH_at, if_neg (by omega)]
theorem SL_s1 {ke : Nat} {sl ss : Nat → Int} {v v0 v1 : SVT} {k0 k1 : Nat} (h : SLR ke sl v0 k0 v1 k1) (g : GV v ss) : SLR (ke ||| 2) (cpH sl ss (205 * 1) 205) v0 k0 v 1 := by
  obtain ⟨h1, h2, h3, h4, h5⟩ := h
  refine ⟨h1, Nat.le_refl 1, ?_, fun z => GV_ag (fun j hj => ?_) (h4 z), fun _ => GV_ag (fun j hj => ?_) g⟩
  · rcases (show (k0 = 0 ∨ k0 = 1) ∧ (k1 = 0 ∨ k1 = 1) by omega) with ⟨rfl | rfl, rfl | rfl⟩ <;> rw [h3] <;> rfl
  · show sl (205 * 0 + j) = cpH sl ss (205 * 1) 205 (205 * 0 + j)
    rw [cpH_at, if_neg (by omega)]
  · show ss j = cpH sl ss (205 * 1) 205 (205 * 1 + j)
    rw [cpH_at, if_pos (by omega)]; exact congrArg ss (by omega)
theorem MR_fl {ss : Nat → Int} (h : MR ss) {p hh ww : Nat} {w : Int} (hp : p < 64) (hw : 0 ≤ w ∧ w ≤ 15) : MR (fillS ss p hh ww w).1 := by
  have g := h
  obtain ⟨g1, g2, g3, g4, g5, g6⟩ := h
  have e : ∀ j, 64 ≤ j → (fillS ss p hh ww w).1 j = ss j := fun j hj => fill_hi hp hj
  refine ⟨fun j hj => ?_, ?_, ?_, ?_, ?_, ?_⟩
  · by_cases c : j < 64
    · exact rrow_B (v := w) (r0 := p / 8) (c0 := p % 8) (w := min ww (8 - p % 8)) (x := (ss, 0)) (MR_B g) hw (min hh (8 - p / 8)) j c
    · rw [e j (by omega)]; exact g1 j hj
  · rw [e 192 (by omega)]; exact g2
  · rw [e 193 (by omega)]; exact g3
  · rw [e 194 (by omega)]; exact g4
  · rw [e 194 (by omega), e 195 (by omega)]; exact g5
  · rw [e 194 (by omega), e 196 (by omega)]; exact g6
theorem MR_bu {ss : Nat → Int} (h : MR ss) {q : Nat} (hq : 4 ≤ q ∧ q ≤ 300) : MR (va_up ss 192 (q : Int)) := by
  obtain ⟨g1, g2, g3, g4, g5, g6⟩ := h
  have e : ∀ j, ¬ j = 192 → va_up ss 192 (q : Int) j = ss j := fun j hj => va_up_ne _ _ hj
  refine ⟨fun j hj => by rw [e j (by omega)]; exact g1 j hj, ?_, ?_, ?_, ?_, ?_⟩
  · rw [va_up_self]; omega
  · rw [e 193 (by omega)]; exact g3
  · rw [e 194 (by omega)]; exact g4
  · rw [e 194 (by omega), e 195 (by omega)]; exact g5
  · rw [e 194 (by omega), e 196 (by omega)]; exact g6
theorem MR_kd {ss : Nat → Int} (h : MR ss) {q : Nat} (hq : 1 ≤ q ∧ q ≤ 20) : MR (va_up ss 193 (q : Int)) := by
  obtain ⟨g1, g2, g3, g4, g5, g6⟩ := h
  have e : ∀ j, ¬ j = 193 → va_up ss 193 (q : Int) j = ss j := fun j hj => va_up_ne _ _ hj
  refine ⟨fun j hj => by rw [e j (by omega)]; exact g1 j hj, ?_, ?_, ?_, ?_, ?_⟩
  · rw [e 192 (by omega)]; exact g2
  · rw [va_up_self]; omega
  · rw [e 194 (by omega)]; exact g4
  · rw [e 194 (by omega), e 195 (by omega)]; exact g5
  · rw [e 194 (by omega), e 196 (by omega)]; exact g6
theorem eqv_rfl (v : SVT) : eqv v v := ⟨fun _ _ => rfl, fun _ _ => rfl, fun _ _ => rfl, fun _ _ => rfl, fun _ _ => rfl, rfl, rfl, rfl, rfl, rfl⟩
theorem eq_bu {ss : Nat → Int} {k o : Nat → Nat} {q : Nat} : eqv (dS ss, tS ss, rS ss, k, o, q, (ss 193).toNat, (ss 194).toNat, (ss 195).toNat, (ss 196).toNat) (vOf (va_up ss 192 (q : Int)) k o) := by
  refine ⟨fun j hj => ?_, fun j hj => ?_, fun j hj => ?_, fun _ _ => rfl, fun _ _ => rfl, ?_, rfl, rfl, rfl, rfl⟩
  · show ss (j % 64) = va_up ss 192 _ (j % 64); rw [va_up_ne _ _ (by omega)]
  · show ss (64 + j % 64) = va_up ss 192 _ (64 + j % 64); rw [va_up_ne _ _ (by omega)]
  · show ss (128 + j % 64) = va_up ss 192 _ (128 + j % 64); rw [va_up_ne _ _ (by omega)]
  · show q = (va_up ss 192 (q : Int) 192).toNat; rw [va_up_self]; omega
theorem eq_kd {ss : Nat → Int} {k o : Nat → Nat} {q : Nat} : eqv (dS ss, tS ss, rS ss, k, o, (ss 192).toNat, q, (ss 194).toNat, (ss 195).toNat, (ss 196).toNat) (vOf (va_up ss 193 (q : Int)) k o) := by
  refine ⟨fun j hj => ?_, fun j hj => ?_, fun j hj => ?_, fun _ _ => rfl, fun _ _ => rfl, rfl, ?_, rfl, rfl, rfl⟩
  · show ss (j % 64) = va_up ss 193 _ (j % 64); rw [va_up_ne _ _ (by omega)]
  · show ss (64 + j % 64) = va_up ss 193 _ (64 + j % 64); rw [va_up_ne _ _ (by omega)]
  · show ss (128 + j % 64) = va_up ss 193 _ (128 + j % 64); rw [va_up_ne _ _ (by omega)]
  · show q = (va_up ss 193 (q : Int) 193).toNat; rw [va_up_self]; omega
theorem MR_rC {tn : Nat → Nat} {ln : Nat} : ∀ (n i : Nat) (ss : Nat → Int) (dn : Nat), MR ss → MR (rC tn ln n i ss dn).1
  | 0, _, _, _, h => h
  | n + 1, i, ss, dn, h => by
    unfold rC
    split
    · exact h
    · split
      · exact MR_rC n _ _ _ (MR_ex h)
      · exact MR_ex h
/-- characters are small -/
theorem csF_ch : ∀ (n r c : Nat), ¬ csF n r c = 0 → ∀ j, c + j < csF n r c → r / 256 ^ j % 256 ≤ 126
  | 0, r, c, h, j, hj => by
    unfold csF at h hj
    split at hj
    · omega
    · omega
  | n + 1, r, c, h, j, hj => by
    unfold csF at h hj
    by_cases c1 : r % 256 = 0
    · rw [if_pos c1] at h hj
      split at hj <;> omega
    · rw [if_neg c1] at h hj
      by_cases c2 : r % 256 < 33 ∨ 126 < r % 256
      · rw [if_pos c2] at h; exact absurd rfl h
      · rw [if_neg c2] at h hj
        cases j with
        | zero => rw [Nat.pow_zero, Nat.div_one]; omega
        | succ j =>
          have h1 := csF_ch n (r / 256) (c + 1) h j (by omega)
          rw [Nat.pow_succ, Nat.mul_comm, ← Nat.div_div_eq_div_mul]
          exact h1
theorem sg_lt {u k j : Nat} (hk : k = CS u) (h0 : ¬ CS u = 0) (hj : j < k) : sgA u k j < 128 := by
  have h1 := csF_ch 8 u 0 h0 (k - 1 - j) (by unfold CS at hk; omega)
  have e : 2 ^ (8 * (k - 1 - j)) = 256 ^ (k - 1 - j) := by rw [Nat.pow_mul]
  unfold sgA
  rw [e]; omega
theorem adT_128 {tn : Nat → Nat} {ln u : Nat} (h : T128 tn) (h0 : ¬ CS u = 0) : ∀ j, j ≤ CS u → T128 (adT tn ln u (CS u) j)
  | 0, _ => h
  | j + 1, hj => by
    intro q
    show va_up (adT tn ln u (CS u) j) (ln + j) (sgA u (CS u) j) q < 128
    by_cases e : q = ln + j
    · subst e; rw [va_up_self]; exact sg_lt rfl h0 (by omega)
    · rw [va_up_ne _ _ e]; exact adT_128 h h0 j (by omega) q
