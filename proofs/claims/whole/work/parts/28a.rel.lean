/-! ===== the class's state out of the reference's row ===== -/
def vOf (ss : Nat → Int) (k o : Nat → Nat) : SVT := (dS ss, tS ss, rS ss, k, o, (ss 192).toNat, (ss 193).toNat, (ss 194).toNat, (ss 195).toNat, (ss 196).toNat)
def KO (ss : Nat → Int) (k o : Nat → Nat) : Prop := (∀ b, k b ≤ 2) ∧ (ss 194 = 0 → ∀ b, b < 4 → ss (197 + b) = 0) ∧ (¬ ss 194 = 0 → ∀ b, b < 4 → ss (197 + b) = ((k b + 1 : Nat) : Int) ∧ ss (201 + b) = if k b = 0 then -1 else ((o b : Nat) : Int))
theorem KO_ag {s s' : Nat → Int} {k o : Nat → Nat} (h : KO s k o) (e : ∀ j, 194 ≤ j → j < 205 → s' j = s j) : KO s' k o := by
  obtain ⟨h1, h2, h3⟩ := h
  have e4 := e 194 (by omega) (by omega)
  exact ⟨h1, fun z b hb => by rw [e _ (by omega) (by omega)]; exact h2 (e4 ▸ z) b hb, fun z b hb => by rw [e _ (by omega) (by omega), e _ (by omega) (by omega)]; exact h3 (e4 ▸ z) b hb⟩
def eqv (v w : SVT) : Prop := (∀ j, j < 64 → v.1 j = w.1 j) ∧ (∀ j, j < 64 → v.2.1 j = w.2.1 j) ∧ (∀ j, j < 64 → v.2.2.1 j = w.2.2.1 j) ∧ (∀ j, j < 4 → v.2.2.2.1 j = w.2.2.2.1 j) ∧ (∀ j, j < 4 → v.2.2.2.2.1 j = w.2.2.2.2.1 j) ∧
  v.2.2.2.2.2.1 = w.2.2.2.2.2.1 ∧ v.2.2.2.2.2.2.1 = w.2.2.2.2.2.2.1 ∧ v.2.2.2.2.2.2.2.1 = w.2.2.2.2.2.2.2.1 ∧ v.2.2.2.2.2.2.2.2.1 = w.2.2.2.2.2.2.2.2.1 ∧ v.2.2.2.2.2.2.2.2.2 = w.2.2.2.2.2.2.2.2.2
theorem PP_row {G : GT} {H : Heap} {ws : va_W} {a : Nat} {cA : ClassId} {n : Nat} {f g : Nat → Int32} (hP : PP G ws H) (q0 : Nat) (ha : ws[q0]? = some (a, .inl (cA, n, .inl f))) (h : ∀ j, j < n → f j = g j) : PP G (ws.set q0 (a, .inl (cA, n, .inl g))) H := by
  intro k q hk
  by_cases e : q0 = k
  · subst e
    have hlt := (List.getElem?_eq_some_iff.mp ha).1
    rw [List.getElem?_set_self hlt] at hk
    cases hk
    have h1 := hP q0 _ ha
    show H[a]? = some (vp_cell cA (n, .inl g))
    rw [← cellE h]
    exact h1
  · rw [List.getElem?_set_ne e] at hk
    exact hP k q hk
theorem stW_eqv {G : GT} {H : Heap} {h a1 a2 a3 a4 a5 a6 a7 a8 : Nat} {v w : SVT} (e : eqv v w) (hP : PP G (stW G h a1 a2 a3 a4 a5 a6 a7 a8 v) H) : PP G (stW G h a1 a2 a3 a4 a5 a6 a7 a8 w) H := by
  obtain ⟨e1, e2, e3, e4, e5, e6, e7, e8, e9, e10⟩ := e
  unfold stW at hP ⊢
  rw [← e6, ← e7, ← e8, ← e9, ← e10]
  have h1 := PP_row hP 2 (g := fun z9 => iI (w.1 z9)) rfl (fun j hj => congrArg iI (e1 j hj))
  have h2 := PP_row h1 4 (g := fun z9 => iI (w.2.1 z9)) rfl (fun j hj => congrArg iI (e2 j hj))
  have h3 := PP_row h2 6 (g := fun z9 => iI (w.2.2.1 z9)) rfl (fun j hj => congrArg iI (e3 j hj))
  have h4 := PP_row h3 7 (g := fun z9 => nI (w.2.2.2.1 z9)) rfl (fun j hj => congrArg nI (e4 j hj))
  exact PP_row h4 8 (g := fun z9 => nI (w.2.2.2.2.1 z9)) rfl (fun j hj => congrArg nI (e5 j hj))
theorem PP_l {G : GT} {H : Heap} {w1 w2 : va_W} (h : PP G (w1 ++ w2) H) : PP G w1 H := PP_sub (fun _ hq => List.mem_append_left _ hq) h
theorem PP_r {G : GT} {H : Heap} {w1 w2 : va_W} (h : PP G (w1 ++ w2) H) : PP G w2 H := PP_sub (fun _ hq => List.mem_append_right _ hq) h
theorem y3_eqv {G : GT} {H : Heap} {a : Nat → Nat} {v w : SVT} {mo ki : Nat → Nat} {pr df : Nat → Int} {co : Int32} {bi : Nat} {g9 : Nat → Int32} {lr : Nat} {bf : Nat → Int} {tn : Nat → Nat} {ln : Nat} (e : eqv v w) (h : PP G (y3W G a v mo ki pr df co bi g9 lr bf tn ln) H) : PP G (y3W G a w mo ki pr df co bi g9 lr bf tn ln) H :=
  PP_app (PP_l h) (PP_app (stW_eqv e (PP_l (PP_r h))) (PP_r (PP_r h)))
theorem xW_eqv {G : GT} {H : Heap} {a : Nat → Nat} {v w : SVT} {mo ki : Nat → Nat} {pr df : Nat → Int} {co : Int32} {bi : Nat} {g9 : Nat → Int32} {lr : Nat} {bf : Nat → Int} {tn : Nat → Nat} {ln nx ct : Nat} {hv : Nat → SVT} {v0 : SVT} {k0 : Nat} {v1 : SVT} {k1 : Nat} (e : eqv v w) (h : PP G (xW G a v mo ki pr df co bi g9 lr bf tn ln nx ct hv v0 k0 v1 k1) H) : PP G (xW G a w mo ki pr df co bi g9 lr bf tn ln nx ct hv v0 k0 v1 k1) H :=
  PP_app (PP_l h) (PP_app (stW_eqv e (PP_l (PP_r h))) (PP_r (PP_r h)))
/-! the changes, on both sides -/
theorem dS_up {ss : Nat → Int} {p : Nat} {w : Int} (hp : p < 64) {j : Nat} (hj : j < 64) : va_up (dS ss) p w j = dS (va_up ss p w) j := by
  show _ = va_up ss p w (j % 64)
  rw [Nat.mod_eq_of_lt hj]
  by_cases e : j = p
  · subst e; rw [va_up_self, va_up_self]
  · rw [va_up_ne _ _ e, va_up_ne _ _ e]; exact (dS_at hj).symm
theorem eq_low {ss s' : Nat → Int} {k o : Nat → Nat} {d' : Nat → Int} (e : ∀ j, 64 ≤ j → j < 197 → s' j = ss j) (hd : ∀ j, j < 64 → d' j = s' j) : eqv (d', tS ss, rS ss, k, o, (ss 192).toNat, (ss 193).toNat, (ss 194).toNat, (ss 195).toNat, (ss 196).toNat) (vOf s' k o) := by
  refine ⟨fun j hj => (hd j hj).trans (dS_at hj), fun j hj => ?_, fun j hj => ?_, fun _ _ => rfl, fun _ _ => rfl, ?_, ?_, ?_, ?_, ?_⟩
  · show ss (64 + j % 64) = s' (64 + j % 64); rw [e _ (by omega) (by omega)]
  · show ss (128 + j % 64) = s' (128 + j % 64); rw [e _ (by omega) (by omega)]
  · show (ss 192).toNat = (s' 192).toNat; rw [e _ (by omega) (by omega)]
  · show (ss 193).toNat = (s' 193).toNat; rw [e _ (by omega) (by omega)]
  · show (ss 194).toNat = (s' 194).toNat; rw [e _ (by omega) (by omega)]
  · show (ss 195).toNat = (s' 195).toNat; rw [e _ (by omega) (by omega)]
  · show (ss 196).toNat = (s' 196).toNat; rw [e _ (by omega) (by omega)]
theorem up_hi {ss : Nat → Int} {p : Nat} {w : Int} (hp : p < 64) {j : Nat} (hj : 64 ≤ j) : va_up ss p w j = ss j := va_up_ne _ _ (by omega)
theorem eq_up {ss : Nat → Int} {k o : Nat → Nat} {p : Nat} {w : Int} (hp : p < 64) : eqv (va_up (dS ss) p w, tS ss, rS ss, k, o, (ss 192).toNat, (ss 193).toNat, (ss 194).toNat, (ss 195).toNat, (ss 196).toNat) (vOf (va_up ss p w) k o) :=
  eq_low (fun j hj _ => up_hi hp hj) (fun j hj => by rw [dS_up hp hj]; exact (dS_at hj).symm)
/-- pictures moved: in the picture, in the row -/
theorem tkm_ag {f g : Nat → Int} {dy dx : Int} (e : ∀ j, j < 64 → f j = g j) : ∀ n, n ≤ 64 → (∀ j, j < 64 → (tkm f dy dx f n).1 j = (tkm g dy dx g n).1 j) ∧ (tkm f dy dx f n).2 = (tkm g dy dx g n).2
  | 0, _ => ⟨e, rfl⟩
  | n + 1, hn => by
    obtain ⟨h1, h2⟩ := tkm_ag e n (by omega)
    have h3 := e (fr n dy dx) (fr_lt _ _ _)
    constructor
    · intro j hj
      show va_up (tkm f dy dx f n).1 n (f (fr n dy dx)) j = va_up (tkm g dy dx g n).1 n (g (fr n dy dx)) j
      by_cases q : j = n
      · subst q; rw [va_up_self, va_up_self]; exact h3
      · rw [va_up_ne _ _ q, va_up_ne _ _ q]; exact h1 j hj
    · show (tkm f dy dx f n).2 + _ = (tkm g dy dx g n).2 + _
      rw [h2, h1 n (by omega), h3]
theorem dS_e {ss : Nat → Int} : ∀ j, j < 64 → dS ss j = ss j := fun j hj => (dS_at hj).symm
theorem eq_sc {ss : Nat → Int} {k o : Nat → Nat} {dy dx : Int} : eqv ((tkm (dS ss) dy dx (dS ss) 64).1, tS ss, rS ss, k, o, (ss 192).toNat, (ss 193).toNat, (ss 194).toNat, (ss 195).toNat, (ss 196).toNat) (vOf (scR ss dy dx) k o) :=
  eq_low (fun j hj _ => tkm_hi dy dx hj 64 (Nat.le_refl 64)) (fun j hj => (tkm_ag dS_e 64 (Nat.le_refl 64)).1 j hj)
theorem cn_sc {ss : Nat → Int} {dy dx : Int} : (tkm (dS ss) dy dx (dS ss) 64).2 = (tkm ss dy dx ss 64).2 := (tkm_ag dS_e 64 (Nat.le_refl 64)).2
/-- a rectangle: in the picture, in the row -/
theorem rput_ag {v : Int} {p : Nat} {x y : (Nat → Int) × Nat} (hp : p < 64) (h : (∀ j, j < 64 → x.1 j = y.1 j) ∧ x.2 = y.2) : (∀ j, j < 64 → (rput v p x).1 j = (rput v p y).1 j) ∧ (rput v p x).2 = (rput v p y).2 := by
  refine ⟨fun j hj => ?_, ?_⟩
  · show va_up x.1 p v j = va_up y.1 p v j
    by_cases q : j = p
    · subst q; rw [va_up_self, va_up_self]
    · rw [va_up_ne _ _ q, va_up_ne _ _ q]; exact h.1 j hj
  · show x.2 + _ = y.2 + _
    rw [h.2, h.1 p hp]
theorem rcol_ag {v : Int} {r c0 : Nat} {x y : (Nat → Int) × Nat} (h : (∀ j, j < 64 → x.1 j = y.1 j) ∧ x.2 = y.2) : ∀ n, 8 * r + (c0 + n) ≤ 64 → (∀ j, j < 64 → (rcol v r c0 x n).1 j = (rcol v r c0 y n).1 j) ∧ (rcol v r c0 x n).2 = (rcol v r c0 y n).2
  | 0, _ => h
  | n + 1, hn => rput_ag (by omega) (rcol_ag h n (by omega))
theorem rrow_ag {v : Int} {r0 c0 w : Nat} {x y : (Nat → Int) × Nat} (hw : c0 + w ≤ 8) (h : (∀ j, j < 64 → x.1 j = y.1 j) ∧ x.2 = y.2) : ∀ n, r0 + n ≤ 8 → (∀ j, j < 64 → (rrow v r0 c0 w x n).1 j = (rrow v r0 c0 w y n).1 j) ∧ (rrow v r0 c0 w x n).2 = (rrow v r0 c0 w y n).2
  | 0, _ => h
  | n + 1, hn => rcol_ag (rrow_ag hw h n (by omega)) w (by omega)
theorem fill_ag {f g : Nat → Int} {p hh ww : Nat} {w : Int} (hp : p < 64) (e : ∀ j, j < 64 → f j = g j) : (∀ j, j < 64 → (fillS f p hh ww w).1 j = (fillS g p hh ww w).1 j) ∧ (fillS f p hh ww w).2 = (fillS g p hh ww w).2 :=
  rrow_ag (v := w) (r0 := p / 8) (c0 := p % 8) (w := min ww (8 - p % 8)) (x := (f, 0)) (y := (g, 0)) (by omega) ⟨e, rfl⟩ (min hh (8 - p / 8)) (by omega)
theorem rcol_hi {v : Int} {r c0 : Nat} {x : (Nat → Int) × Nat} {j : Nat} (hj : 64 ≤ j) : ∀ n, 8 * r + (c0 + n) ≤ 64 → (rcol v r c0 x n).1 j = x.1 j
  | 0, _ => rfl
  | n + 1, hn => by
    show va_up (rcol v r c0 x n).1 _ v j = _
    rw [va_up_ne _ _ (by omega)]; exact rcol_hi hj n (by omega)
theorem rrow_hi {v : Int} {r0 c0 w : Nat} {x : (Nat → Int) × Nat} {j : Nat} (hj : 64 ≤ j) (hw : c0 + w ≤ 8) : ∀ n, r0 + n ≤ 8 → (rrow v r0 c0 w x n).1 j = x.1 j
  | 0, _ => rfl
  | n + 1, hn => by
    show (rcol v (r0 + n) c0 (rrow v r0 c0 w x n) w).1 j = _
    rw [rcol_hi hj w (by omega)]; exact rrow_hi hj hw n (by omega)
theorem fill_hi {f : Nat → Int} {p hh ww : Nat} {w : Int} (hp : p < 64) {j : Nat} (hj : 64 ≤ j) : (fillS f p hh ww w).1 j = f j := rrow_hi (v := w) (r0 := p / 8) (c0 := p % 8) (w := min ww (8 - p % 8)) (x := (f, 0)) hj (by omega) (min hh (8 - p / 8)) (by omega)
theorem eq_fl {ss : Nat → Int} {k o : Nat → Nat} {p hh ww : Nat} {w : Int} (hp : p < 64) : eqv ((fillS (dS ss) p hh ww w).1, tS ss, rS ss, k, o, (ss 192).toNat, (ss 193).toNat, (ss 194).toNat, (ss 195).toNat, (ss 196).toNat) (vOf (fillS ss p hh ww w).1 k o) :=
  eq_low (fun j hj _ => fill_hi hp hj) (fun j hj => (fill_ag hp dS_e).1 j hj)
/-- a picture sent -/
theorem eq_sd {ss T Gv rr : Nat → Int} {kd mv k o : Nat → Nat} {sum lost lc : Nat} (h : MR ss) (hr : ∀ j, j < 64 → rr j = if lost = 1 then rS ss j else Gv j) (hk : ∀ b, b < 4 → k b = kd b) (hlc : lc = (ss 195).toNat + lost) :
    eqv (dS ss, T, rr, k, o, (ss 192).toNat, (ss 193).toNat, (ss 194).toNat + 1, lc, (ss 196).toNat + sum) (vOf (sdR ss T Gv kd mv sum lost) kd o) := by
  obtain ⟨g1, g2, g3, g4, g5, g6⟩ := h
  refine ⟨fun j hj => ?_, fun j hj => ?_, fun j hj => ?_, hk, fun _ _ => rfl, rfl, rfl, ?_, ?_, ?_⟩
  · show ss (j % 64) = sdR ss T Gv kd mv sum lost (j % 64)
    unfold sdR; rw [if_pos (by omega)]
  · show T j = sdR ss T Gv kd mv sum lost (64 + j % 64)
    rw [Nat.mod_eq_of_lt hj]
    have e : 64 + j - 64 = j := by omega
    unfold sdR; rw [if_neg (by omega), if_pos (by omega), e]
  · show rr j = sdR ss T Gv kd mv sum lost (128 + j % 64)
    rw [hr j hj, Nat.mod_eq_of_lt hj]
    have e : 128 + j - 128 = j := by omega
    have key : sdR ss T Gv kd mv sum lost (128 + j) = if lost = 1 then ss (128 + j) else Gv j := by
      unfold sdR
      rw [if_neg (by omega), if_neg (by omega), if_pos (by omega), e]
    rw [key]
    by_cases c : lost = 1
    · rw [if_pos c, if_pos c]; exact (rS_at hj).symm
    · rw [if_neg c, if_neg c]
  · show (ss 194).toNat + 1 = (ss 194 + 1).toNat; omega
  · show lc = (ss 195 + (lost : Int)).toNat; omega
  · show (ss 196).toNat + sum = (ss 196 + (sum : Int)).toNat; omega
theorem KO_sd {ss T Gv : Nat → Int} {kd mv o : Nat → Nat} {sum lost : Nat} (h : MR ss) (hk : ∀ b, kd b ≤ 2) (ho : ∀ b, b < 4 → ¬ kd b = 0 → o b = mv b) : KO (sdR ss T Gv kd mv sum lost) kd o := by
  obtain ⟨g1, g2, g3, g4, g5, g6⟩ := h
  have e4 : sdR ss T Gv kd mv sum lost 194 = ss 194 + 1 := rfl
  refine ⟨hk, fun z => by rw [e4] at z; omega, fun _ b hb => ⟨?_, ?_⟩⟩
  · unfold sdR
    rw [if_neg (by omega), if_neg (by omega), if_neg (by omega), if_neg (by omega), if_neg (by omega), if_neg (by omega), if_neg (by omega), if_pos (by omega)]
    have e : 197 + b - 197 = b := by omega
    rw [e]
  · unfold sdR
    rw [if_neg (by omega), if_neg (by omega), if_neg (by omega), if_neg (by omega), if_neg (by omega), if_neg (by omega), if_neg (by omega), if_neg (by omega), if_pos (by omega)]
    have e : 201 + b - 201 = b := by omega
    rw [e]
    by_cases c : kd b = 0
    · rw [if_pos c, if_pos c]
    · rw [if_neg c, if_neg c, ho b hb c]
