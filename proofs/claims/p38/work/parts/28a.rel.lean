/-! ===== the class's state out of the reference's row ===== -/
def eqv (v w : SVT) : Prop := (∀ j, j < 64 → v.1 j = w.1 j) ∧ (∀ j, j < 64 → v.2.1 j = w.2.1 j) ∧ (∀ j, j < 64 → v.2.2.1 j = w.2.2.1 j) ∧ (∀ j, j < 4 → v.2.2.2.1 j = w.2.2.2.1 j) ∧ (∀ j, j < 4 → v.2.2.2.2.1 j = w.2.2.2.2.1 j) ∧
  v.2.2.2.2.2.1 = w.2.2.2.2.2.1 ∧ v.2.2.2.2.2.2.1 = w.2.2.2.2.2.2.1 ∧ v.2.2.2.2.2.2.2.1 = w.2.2.2.2.2.2.2.1 ∧ v.2.2.2.2.2.2.2.2.1 = w.2.2.2.2.2.2.2.2.1 ∧ v.2.2.2.2.2.2.2.2.2 = w.2.2.2.2.2.2.2.2.2
theorem PP_row {G : GT} {H : Heap} {ws : va_W} {a : Nat} {cA : ClassId} {n : Nat} {f g : Nat → Int32} (hP : PP G ws H) (q0 : Nat) (ha : ws[q0]? = some (a, .inl (cA, n, .inl f))) (h : ∀ j, j < n → f j = g j) : PP G (ws.set q0 (a, .inl (cA, n, .inl g))) H := by
  intro k q hk
  by_cases e : q0 = k
  · subst e
    have hlt := (List.getElem?_eq_some_iff.mp ha).1
    rw [List.getElem?_set_self hlt] at hk
    cases hk
    have h1 := hP q0 _ ha
    show H[a]? = some (vp_cell cA (n, .inl g))
    rw [← cellE h]
    exact h1
  · rw [List.getElem?_set_ne e] at hk
    exact hP k q hk
theorem stW_eqv {G : GT} {H : Heap} {h a1 a2 a3 a4 a5 a6 a7 a8 : Nat} {v w : SVT} (e : eqv v w) (hP : PP G (stW G h a1 a2 a3 a4 a5 a6 a7 a8 v) H) : PP G (stW G h a1 a2 a3 a4 a5 a6 a7 a8 w) H := by
  obtain ⟨e1, e2, e3, e4, e5, e6, e7, e8, e9, e10⟩ := e
  unfold stW at hP ⊢
  rw [← e6, ← e7, ← e8, ← e9, ← e10]
  have h1 := PP_row hP 2 (g := fun z9 => iI (w.1 z9)) rfl (fun j hj => congrArg iI (e1 j hj))
  have h2 := PP_row h1 4 (g := fun z9 => iI (w.2.1 z9)) rfl (fun j hj => congrArg iI (e2 j hj))
  have h3 := PP_row h2 6 (g := fun z9 => iI (w.2.2.1 z9)) rfl (fun j hj => congrArg iI (e3 j hj))
  have h4 := PP_row h3 7 (g := fun z9 => nI (w.2.2.2.1 z9)) rfl (fun j hj => congrArg nI (e4 j hj))
  exact PP_row h4 8 (g := fun z9 => nI (w.2.2.2.2.1 z9)) rfl (fun j hj => congrArg nI (e5 j hj))
theorem PP_l {G : GT} {H : Heap} {w1 w2 : va_W} (h : PP G (w1 ++ w2) H) : PP G w1 H := PP_sub (fun _ hq => List.mem_append_left _ hq) h
theorem PP_r {G : GT} {H : Heap} {w1 w2 : va_W} (h : PP G (w1 ++ w2) H) : PP G w2 H := PP_sub (fun _ hq => List.mem_append_right _ hq) h
theorem y3_eqv {G : GT} {H : Heap} {a : Nat → Nat} {v w : SVT} {mo ki : Nat → Nat} {pr df : Nat → Int} {co : Int32} {bi : Nat} {g9 : Nat → Int32} {lr : Nat} {bf : Nat → Int} {tn : Nat → Nat} {ln : Nat} (e : eqv v w) (h : PP G (y3W G a v mo ki pr df co bi g9 lr bf tn ln) H) : PP G (y3W G a w mo ki pr df co bi g9 lr bf tn ln) H :=
  PP_app (PP_l h) (PP_app (stW_eqv e (PP_l (PP_r h))) (PP_r (PP_r h)))
theorem xW_eqv {G : GT} {H : Heap} {a : Nat → Nat} {v w : SVT} {mo ki : Nat → Nat} {pr df : Nat → Int} {co : Int32} {bi : Nat} {g9 : Nat → Int32} {lr : Nat} {bf : Nat → Int} {tn : Nat → Nat} {ln nx ct : Nat} {hv : Nat → SVT} {v0 : SVT} {k0 : Nat} {v1 : SVT} {k1 : Nat} (e : eqv v w) (h : PP G (xW G a v mo ki pr df co bi g9 lr bf tn ln nx ct hv v0 k0 v1 k1) H) : PP G (xW G a w mo ki pr df co bi g9 lr bf tn ln nx ct hv v0 k0 v1 k1) H :=
  PP_app (PP_l h) (PP_app (stW_eqv e (PP_l (PP_r h))) (PP_r (PP_r h)))
/-! the changes, on both sides -/
