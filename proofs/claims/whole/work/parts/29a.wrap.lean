set_option maxHeartbeats 4000000 in
set_option maxRecDepth 100000 in
theorem c_L_draw {l : Launch} {G : GT} {H0 : Heap} (a : Nat → Nat) (v : SVT) (mo ki : Nat → Nat) (pr df : Nat → Int) (co : Int32) (bi : Nat) (g9 : Nat → Int32) (lr : Nat) (bf : Nat → Int) (tn : Nat → Nat) (ln nx ct : Nat) (hv : Nat → SVT) (v0 : SVT) (k0 : Nat) (v1 : SVT) (k1 : Nat) (oa : Nat) (of : Nat → Int64) (p : Nat) (w : Int) (hnx : nx < 6) (hct : ct ≤ 6) (hp : p < 64) (hw : 0 ≤ w ∧ w ≤ 15) (hP0 : PP G (xW G a v mo ki pr df co bi g9 lr bf tn ln nx ct hv v0 k0 v1 k1 ++ [(oa, .inl (cL G, 1, .inr (.inl of)))]) H0) (hB0 : va_D (lo G) (xW G a v mo ki pr df co bi g9 lr bf tn ln nx ct hv v0 k0 v1 k1 ++ [(oa, .inl (cL G, 1, .inr (.inl of)))])) : Met l yL_draw wsL_draw ({ frames := 5, cells := 0, slots := 0, locals := 110 } : Room) (pcG G [.ref (a 0), .int (nI (p)), .int (iI (w)), .ref oa] H0) (qMi G (fun (r : Int32) (u : Unit) => r = nI 0) (fun (u : Unit) => xW G a (va_up v.1 p w, v.2.1, v.2.2.1, v.2.2.2.1, v.2.2.2.2.1, v.2.2.2.2.2.1, v.2.2.2.2.2.2.1, v.2.2.2.2.2.2.2.1, v.2.2.2.2.2.2.2.2.1, v.2.2.2.2.2.2.2.2.2) mo ki pr df co bi g9 lr bf tn ln ((nx + 1) % 6) (min (ct + 1) 6) (va_up hv nx v) v0 k0 v1 k1 ++ [(oa, .inl (cL G, 1, .inr (.inl (vp_updL of 0 ((iI (v.1 p)).toInt64)))))]) (xW G a v mo ki pr df co bi g9 lr bf tn ln nx ct hv v0 k0 v1 k1 ++ [(oa, .inl (cL G, 1, .inr (.inl of)))]) H0) 0 0 (va_A (xW G a v mo ki pr df co bi g9 lr bf tn ln nx ct hv v0 k0 v1 k1 ++ [(oa, .inl (cL G, 1, .inr (.inl of)))]) H0.size) := by
  refine enterH (cc := cL_draw) (maxL := 5) (ret := some .int) (own := RL) (lv := [(0, .ref (a 0)), (1, .int (nI (p))), (2, .int (iI (w))), (3, .ref oa)]) (by decide) rfl rfl rfl (Nat.le_of_ble_eq_true rfl) ?_
  intro pg ev s m below meth c hx hb hr hts hown hlocks hml htab hH hC ls hl
  subst hH
  have hLo := va_freeB hB0 hC.2.2.2.1
  have hD := hB0.self (sz := s.heap.size)
  have hS : va_S (va_A (xW G a v mo ki pr df co bi g9 lr bf tn ln nx ct hv v0 k0 v1 k1 ++ [(oa, .inl (cL G, 1, .inr (.inl of)))]) s.heap.size) s.heap s.heap [] := va_S.rf
  unfold qMi
  generalize hAe : va_A (xW G a v mo ki pr df co bi g9 lr bf tn ln nx ct hv v0 k0 v1 k1 ++ [(oa, .inl (cL G, 1, .inr (.inl of)))]) s.heap.size = A at hD hLo hS ⊢
  have hA : ∀ q, s.heap.size ≤ q → A q := fun q h => by rw [← hAe]; exact Or.inr h
  generalize ([] : List Loc) = locs at hS ⊢
  have hP := hP0
  refine lv_aload_n hx hb dL_draw_0 rfl (lv_at hl 3 rfl) ?_
  refine lv_iconst (v := nI (0)) hx hb dL_draw_1 (by decide) ?_
  refine lv_aload_n hx hb dL_draw_2 rfl (lv_at hl 0 rfl) ?_
  refine lv_iload_n hx hb dL_draw_3 rfl (lv_at hl 1 rfl) ?_
  refine lv_iload_n hx hb dL_draw_4 rfl (lv_at hl 2 rfl) ?_
  refine kPreI (va_runV (As := [.int (nI (p)), .int (iI (w))]) (rest := [.int (nI (0)), .ref oa]) ⟨hx, hb, hml, hown, hts⟩ (c_X8_draw a v mo ki pr df co bi g9 lr bf tn ln nx ct hv v0 k0 v1 k1 p w (by first | assumption | omega) (by first | assumption | omega) (by first | assumption | omega) (by first | assumption | omega) (pre_P hP) ((pre_D hD).weaken (fun _ _ _ h => hLo _ h))) (cwV 2 hts gL_draw_X8_draw rfl rfl rfl (by decide +kernel) ⟨Nat.le_of_ble_eq_true rfl, Nat.le_of_ble_eq_true rfl⟩) (preV hC hS hLo hP (ci := 7) (q0 := 0) rfl rfl) rfl rfl hl.1 rfl (lv_room (Nat.le_of_ble_eq_true rfl)) dL_draw_5 ⟨Nat.zero_le _, Nat.zero_le _⟩) hP hD hS hA (fun _ => rfl) (fun r_3 u_1 H locs q_2 hP hD hS => ?_)
  have hP : PP G (xW G a (va_up v.1 p w, v.2.1, v.2.2.1, v.2.2.2.1, v.2.2.2.2.1, v.2.2.2.2.2.1, v.2.2.2.2.2.2.1, v.2.2.2.2.2.2.2.1, v.2.2.2.2.2.2.2.2.1, v.2.2.2.2.2.2.2.2.2) mo ki pr df co bi g9 lr bf tn ln ((nx + 1) % 6) (min (ct + 1) 6) (va_up hv nx v) v0 k0 v1 k1 ++ [(oa, .inl (cL G, 1, .inr (.inl of)))]) H := hP
  have hD : va_D A (xW G a (va_up v.1 p w, v.2.1, v.2.2.1, v.2.2.2.1, v.2.2.2.2.1, v.2.2.2.2.2.1, v.2.2.2.2.2.2.1, v.2.2.2.2.2.2.2.1, v.2.2.2.2.2.2.2.2.1, v.2.2.2.2.2.2.2.2.2) mo ki pr df co bi g9 lr bf tn ln ((nx + 1) % 6) (min (ct + 1) 6) (va_up hv nx v) v0 k0 v1 k1 ++ [(oa, .inl (cL G, 1, .inr (.inl of)))]) := hD
  refine topE (v' := iI (v.1 p)) (q_2) ?_
  refine lv_i2l (v := (iI (v.1 p)).toInt64) hx hb dL_draw_8 (rfl) ?_
  refine gOut hx hb hC.K hP hD hS dL_draw_9 (fun H locs hP hD hS => ?_)
  have hP : PP G (xW G a (va_up v.1 p w, v.2.1, v.2.2.1, v.2.2.2.1, v.2.2.2.2.1, v.2.2.2.2.2.1, v.2.2.2.2.2.2.1, v.2.2.2.2.2.2.2.1, v.2.2.2.2.2.2.2.2.1, v.2.2.2.2.2.2.2.2.2) mo ki pr df co bi g9 lr bf tn ln ((nx + 1) % 6) (min (ct + 1) 6) (va_up hv nx v) v0 k0 v1 k1 ++ [(oa, .inl (cL G, 1, .inr (.inl (vp_updL of 0 ((iI (v.1 p)).toInt64)))))]) H := hP
  have hD : va_D A (xW G a (va_up v.1 p w, v.2.1, v.2.2.1, v.2.2.2.1, v.2.2.2.2.1, v.2.2.2.2.2.1, v.2.2.2.2.2.2.1, v.2.2.2.2.2.2.2.1, v.2.2.2.2.2.2.2.2.1, v.2.2.2.2.2.2.2.2.2) mo ki pr df co bi g9 lr bf tn ln ((nx + 1) % 6) (min (ct + 1) 6) (va_up hv nx v) v0 k0 v1 k1 ++ [(oa, .inl (cL G, 1, .inr (.inl (vp_updL of 0 ((iI (v.1 p)).toInt64)))))]) := hD
  refine lv_goto (tgt := 21) hx hb dL_draw_10 (by decide) ?_
  refine lv_iconst (v := nI (0)) hx hb dL_draw_21 (by decide) ?_
  exact xMi (G := G) (post := (fun (r : Int32) (u : Unit) => r = nI 0)) (w1 := (fun (u : Unit) => xW G a (va_up v.1 p w, v.2.1, v.2.2.1, v.2.2.2.1, v.2.2.2.2.1, v.2.2.2.2.2.1, v.2.2.2.2.2.2.1, v.2.2.2.2.2.2.2.1, v.2.2.2.2.2.2.2.2.1, v.2.2.2.2.2.2.2.2.2) mo ki pr df co bi g9 lr bf tn ln ((nx + 1) % 6) (min (ct + 1) 6) (va_up hv nx v) v0 k0 v1 k1 ++ [(oa, .inl (cL G, 1, .inr (.inl (vp_updL of 0 ((iI (v.1 p)).toInt64)))))])) (()) hx hb hr hlocks hP hS (by exact rfl) (by exact rfl) dL_draw_22

set_option maxHeartbeats 4000000 in
set_option maxRecDepth 100000 in
theorem c_L_fill {l : Launch} {G : GT} {H0 : Heap} (a : Nat → Nat) (v : SVT) (mo ki : Nat → Nat) (pr df : Nat → Int) (co : Int32) (bi : Nat) (g9 : Nat → Int32) (lr : Nat) (bf : Nat → Int) (tn : Nat → Nat) (ln nx ct : Nat) (hv : Nat → SVT) (v0 : SVT) (k0 : Nat) (v1 : SVT) (k1 : Nat) (oa : Nat) (of : Nat → Int64) (p hh ww : Nat) (w : Int) (hnx : nx < 6) (hct : ct ≤ 6) (hp : p < 64) (hhh : 1 ≤ hh ∧ hh ≤ 8) (hww : 1 ≤ ww ∧ ww ≤ 8) (hw : 0 ≤ w ∧ w ≤ 15) (hd : R15 v.1) (hP0 : PP G (xW G a v mo ki pr df co bi g9 lr bf tn ln nx ct hv v0 k0 v1 k1 ++ [(oa, .inl (cL G, 1, .inr (.inl of)))]) H0) (hB0 : va_D (lo G) (xW G a v mo ki pr df co bi g9 lr bf tn ln nx ct hv v0 k0 v1 k1 ++ [(oa, .inl (cL G, 1, .inr (.inl of)))])) : Met l yL_fill wsL_fill ({ frames := 5, cells := 0, slots := 0, locals := 112 } : Room) (pcG G [.ref (a 0), .int (nI (p)), .int (nI (hh)), .int (nI (ww)), .int (iI (w)), .ref oa] H0) (qMi G (fun (r : Int32) (u : Unit) => r = nI 0) (fun (u : Unit) => xW G a ((fillS v.1 p hh ww w).1, v.2.1, v.2.2.1, v.2.2.2.1, v.2.2.2.2.1, v.2.2.2.2.2.1, v.2.2.2.2.2.2.1, v.2.2.2.2.2.2.2.1, v.2.2.2.2.2.2.2.2.1, v.2.2.2.2.2.2.2.2.2) mo ki pr df co bi g9 lr bf tn ln ((nx + 1) % 6) (min (ct + 1) 6) (va_up hv nx v) v0 k0 v1 k1 ++ [(oa, .inl (cL G, 1, .inr (.inl (vp_updL of 0 ((nI ((fillS v.1 p hh ww w).2)).toInt64)))))]) (xW G a v mo ki pr df co bi g9 lr bf tn ln nx ct hv v0 k0 v1 k1 ++ [(oa, .inl (cL G, 1, .inr (.inl of)))]) H0) 0 0 (va_A (xW G a v mo ki pr df co bi g9 lr bf tn ln nx ct hv v0 k0 v1 k1 ++ [(oa, .inl (cL G, 1, .inr (.inl of)))]) H0.size) := by
  refine enterH (cc := cL_fill) (maxL := 7) (ret := some .int) (own := RL) (lv := [(0, .ref (a 0)), (1, .int (nI (p))), (2, .int (nI (hh))), (3, .int (nI (ww))), (4, .int (iI (w))), (5, .ref oa)]) (by decide) rfl rfl rfl (Nat.le_of_ble_eq_true rfl) ?_
  intro pg ev s m below meth c hx hb hr hts hown hlocks hml htab hH hC ls hl
  subst hH
  have hLo := va_freeB hB0 hC.2.2.2.1
  have hD := hB0.self (sz := s.heap.size)
  have hS : va_S (va_A (xW G a v mo ki pr df co bi g9 lr bf tn ln nx ct hv v0 k0 v1 k1 ++ [(oa, .inl (cL G, 1, .inr (.inl of)))]) s.heap.size) s.heap s.heap [] := va_S.rf
  unfold qMi
  generalize hAe : va_A (xW G a v mo ki pr df co bi g9 lr bf tn ln nx ct hv v0 k0 v1 k1 ++ [(oa, .inl (cL G, 1, .inr (.inl of)))]) s.heap.size = A at hD hLo hS ⊢
  have hA : ∀ q, s.heap.size ≤ q → A q := fun q h => by rw [← hAe]; exact Or.inr h
  generalize ([] : List Loc) = locs at hS ⊢
  have hP := hP0
  refine lv_aload hx hb dL_fill_0 (lv_at hl 5 rfl) ?_
  refine lv_iconst (v := nI (0)) hx hb dL_fill_2 (by decide) ?_
  refine lv_aload_n hx hb dL_fill_3 rfl (lv_at hl 0 rfl) ?_
  refine lv_iload_n hx hb dL_fill_4 rfl (lv_at hl 1 rfl) ?_
  refine lv_iload_n hx hb dL_fill_5 rfl (lv_at hl 2 rfl) ?_
  refine lv_iload_n hx hb dL_fill_6 rfl (lv_at hl 3 rfl) ?_
  refine lv_iload hx hb dL_fill_7 (lv_at hl 4 rfl) ?_
  refine kPreI (va_runV (As := [.int (nI (p)), .int (nI (hh)), .int (nI (ww)), .int (iI (w))]) (rest := [.int (nI (0)), .ref oa]) ⟨hx, hb, hml, hown, hts⟩ (c_X8_fill a v mo ki pr df co bi g9 lr bf tn ln nx ct hv v0 k0 v1 k1 p hh ww w (by first | assumption | omega) (by first | assumption | omega) (by first | assumption | omega) (by first | assumption | omega) (by first | assumption | omega) (by first | assumption | omega) (by first | assumption | omega) (pre_P hP) ((pre_D hD).weaken (fun _ _ _ h => hLo _ h))) (cwV 4 hts gL_fill_X8_fill rfl rfl rfl (by decide +kernel) ⟨Nat.le_of_ble_eq_true rfl, Nat.le_of_ble_eq_true rfl⟩) (preV hC hS hLo hP (ci := 7) (q0 := 0) rfl rfl) rfl rfl hl.1 rfl (lv_room (Nat.le_of_ble_eq_true rfl)) dL_fill_9 ⟨Nat.zero_le _, Nat.zero_le _⟩) hP hD hS hA (fun _ => rfl) (fun r_3 u_1 H locs q_2 hP hD hS => ?_)
  have hP : PP G (xW G a ((fillS v.1 p hh ww w).1, v.2.1, v.2.2.1, v.2.2.2.1, v.2.2.2.2.1, v.2.2.2.2.2.1, v.2.2.2.2.2.2.1, v.2.2.2.2.2.2.2.1, v.2.2.2.2.2.2.2.2.1, v.2.2.2.2.2.2.2.2.2) mo ki pr df co bi g9 lr bf tn ln ((nx + 1) % 6) (min (ct + 1) 6) (va_up hv nx v) v0 k0 v1 k1 ++ [(oa, .inl (cL G, 1, .inr (.inl of)))]) H := hP
  have hD : va_D A (xW G a ((fillS v.1 p hh ww w).1, v.2.1, v.2.2.1, v.2.2.2.1, v.2.2.2.2.1, v.2.2.2.2.2.1, v.2.2.2.2.2.2.1, v.2.2.2.2.2.2.2.1, v.2.2.2.2.2.2.2.2.1, v.2.2.2.2.2.2.2.2.2) mo ki pr df co bi g9 lr bf tn ln ((nx + 1) % 6) (min (ct + 1) 6) (va_up hv nx v) v0 k0 v1 k1 ++ [(oa, .inl (cL G, 1, .inr (.inl of)))]) := hD
  refine topE (v' := nI ((fillS v.1 p hh ww w).2)) (q_2) ?_
  refine lv_i2l (v := (nI ((fillS v.1 p hh ww w).2)).toInt64) hx hb dL_fill_12 (rfl) ?_
  refine gOut hx hb hC.K hP hD hS dL_fill_13 (fun H locs hP hD hS => ?_)
  have hP : PP G (xW G a ((fillS v.1 p hh ww w).1, v.2.1, v.2.2.1, v.2.2.2.1, v.2.2.2.2.1, v.2.2.2.2.2.1, v.2.2.2.2.2.2.1, v.2.2.2.2.2.2.2.1, v.2.2.2.2.2.2.2.2.1, v.2.2.2.2.2.2.2.2.2) mo ki pr df co bi g9 lr bf tn ln ((nx + 1) % 6) (min (ct + 1) 6) (va_up hv nx v) v0 k0 v1 k1 ++ [(oa, .inl (cL G, 1, .inr (.inl (vp_updL of 0 ((nI ((fillS v.1 p hh ww w).2)).toInt64)))))]) H := hP
  have hD : va_D A (xW G a ((fillS v.1 p hh ww w).1, v.2.1, v.2.2.1, v.2.2.2.1, v.2.2.2.2.1, v.2.2.2.2.2.1, v.2.2.2.2.2.2.1, v.2.2.2.2.2.2.2.1, v.2.2.2.2.2.2.2.2.1, v.2.2.2.2.2.2.2.2.2) mo ki pr df co bi g9 lr bf tn ln ((nx + 1) % 6) (min (ct + 1) 6) (va_up hv nx v) v0 k0 v1 k1 ++ [(oa, .inl (cL G, 1, .inr (.inl (vp_updL of 0 ((nI ((fillS v.1 p hh ww w).2)).toInt64)))))]) := hD
  refine lv_goto (tgt := 25) hx hb dL_fill_14 (by decide) ?_
  refine lv_iconst (v := nI (0)) hx hb dL_fill_25 (by decide) ?_
  exact xMi (G := G) (post := (fun (r : Int32) (u : Unit) => r = nI 0)) (w1 := (fun (u : Unit) => xW G a ((fillS v.1 p hh ww w).1, v.2.1, v.2.2.1, v.2.2.2.1, v.2.2.2.2.1, v.2.2.2.2.2.1, v.2.2.2.2.2.2.1, v.2.2.2.2.2.2.2.1, v.2.2.2.2.2.2.2.2.1, v.2.2.2.2.2.2.2.2.2) mo ki pr df co bi g9 lr bf tn ln ((nx + 1) % 6) (min (ct + 1) 6) (va_up hv nx v) v0 k0 v1 k1 ++ [(oa, .inl (cL G, 1, .inr (.inl (vp_updL of 0 ((nI ((fillS v.1 p hh ww w).2)).toInt64)))))])) (()) hx hb hr hlocks hP hS (by exact rfl) (by exact rfl) dL_fill_26

set_option maxHeartbeats 4000000 in
set_option maxRecDepth 100000 in
theorem c_L_scroll {l : Launch} {G : GT} {H0 : Heap} (a : Nat → Nat) (v : SVT) (mo ki : Nat → Nat) (pr df : Nat → Int) (co : Int32) (bi : Nat) (g9 : Nat → Int32) (lr : Nat) (bf : Nat → Int) (tn : Nat → Nat) (ln nx ct : Nat) (hv : Nat → SVT) (v0 : SVT) (k0 : Nat) (v1 : SVT) (k1 : Nat) (oa : Nat) (of : Nat → Int64) (dy dx : Int) (hnx : nx < 6) (hct : ct ≤ 6) (hdy : -2 ≤ dy ∧ dy ≤ 2) (hdx : -2 ≤ dx ∧ dx ≤ 2) (hd : R15 v.1) (hP0 : PP G (xW G a v mo ki pr df co bi g9 lr bf tn ln nx ct hv v0 k0 v1 k1 ++ [(oa, .inl (cL G, 1, .inr (.inl of)))]) H0) (hB0 : va_D (lo G) (xW G a v mo ki pr df co bi g9 lr bf tn ln nx ct hv v0 k0 v1 k1 ++ [(oa, .inl (cL G, 1, .inr (.inl of)))])) : Met l yL_scroll wsL_scroll ({ frames := 5, cells := 0, slots := 0, locals := 110 } : Room) (pcG G [.ref (a 0), .int (iI (dy)), .int (iI (dx)), .ref oa] H0) (qMi G (fun (r : Int32) (u : Unit) => r = nI 0) (fun (u : Unit) => xW G a ((tkm v.1 dy dx v.1 64).1, v.2.1, v.2.2.1, v.2.2.2.1, v.2.2.2.2.1, v.2.2.2.2.2.1, v.2.2.2.2.2.2.1, v.2.2.2.2.2.2.2.1, v.2.2.2.2.2.2.2.2.1, v.2.2.2.2.2.2.2.2.2) mo ki pr df co bi g9 lr v.1 tn ln ((nx + 1) % 6) (min (ct + 1) 6) (va_up hv nx v) v0 k0 v1 k1 ++ [(oa, .inl (cL G, 1, .inr (.inl (vp_updL of 0 ((nI ((tkm v.1 dy dx v.1 64).2)).toInt64)))))]) (xW G a v mo ki pr df co bi g9 lr bf tn ln nx ct hv v0 k0 v1 k1 ++ [(oa, .inl (cL G, 1, .inr (.inl of)))]) H0) 0 0 (va_A (xW G a v mo ki pr df co bi g9 lr bf tn ln nx ct hv v0 k0 v1 k1 ++ [(oa, .inl (cL G, 1, .inr (.inl of)))]) H0.size) := by
  refine enterH (cc := cL_scroll) (maxL := 5) (ret := some .int) (own := RL) (lv := [(0, .ref (a 0)), (1, .int (iI (dy))), (2, .int (iI (dx))), (3, .ref oa)]) (by decide) rfl rfl rfl (Nat.le_of_ble_eq_true rfl) ?_
  intro pg ev s m below meth c hx hb hr hts hown hlocks hml htab hH hC ls hl
  subst hH
  have hLo := va_freeB hB0 hC.2.2.2.1
  have hD := hB0.self (sz := s.heap.size)
  have hS : va_S (va_A (xW G a v mo ki pr df co bi g9 lr bf tn ln nx ct hv v0 k0 v1 k1 ++ [(oa, .inl (cL G, 1, .inr (.inl of)))]) s.heap.size) s.heap s.heap [] := va_S.rf
  unfold qMi
  generalize hAe : va_A (xW G a v mo ki pr df co bi g9 lr bf tn ln nx ct hv v0 k0 v1 k1 ++ [(oa, .inl (cL G, 1, .inr (.inl of)))]) s.heap.size = A at hD hLo hS ⊢
  have hA : ∀ q, s.heap.size ≤ q → A q := fun q h => by rw [← hAe]; exact Or.inr h
  generalize ([] : List Loc) = locs at hS ⊢
  have hP := hP0
  refine lv_aload_n hx hb dL_scroll_0 rfl (lv_at hl 3 rfl) ?_
  refine lv_iconst (v := nI (0)) hx hb dL_scroll_1 (by decide) ?_
  refine lv_aload_n hx hb dL_scroll_2 rfl (lv_at hl 0 rfl) ?_
  refine lv_iload_n hx hb dL_scroll_3 rfl (lv_at hl 1 rfl) ?_
  refine lv_iload_n hx hb dL_scroll_4 rfl (lv_at hl 2 rfl) ?_
  refine kPreI (va_runV (As := [.int (iI (dy)), .int (iI (dx))]) (rest := [.int (nI (0)), .ref oa]) ⟨hx, hb, hml, hown, hts⟩ (c_X8_scroll a v mo ki pr df co bi g9 lr bf tn ln nx ct hv v0 k0 v1 k1 dy dx (by first | assumption | omega) (by first | assumption | omega) (by first | assumption | omega) (by first | assumption | omega) (by first | assumption | omega) (pre_P hP) ((pre_D hD).weaken (fun _ _ _ h => hLo _ h))) (cwV 2 hts gL_scroll_X8_scroll rfl rfl rfl (by decide +kernel) ⟨Nat.le_of_ble_eq_true rfl, Nat.le_of_ble_eq_true rfl⟩) (preV hC hS hLo hP (ci := 7) (q0 := 0) rfl rfl) rfl rfl hl.1 rfl (lv_room (Nat.le_of_ble_eq_true rfl)) dL_scroll_5 ⟨Nat.zero_le _, Nat.zero_le _⟩) hP hD hS hA (fun _ => rfl) (fun r_3 u_1 H locs q_2 hP hD hS => ?_)
  have hP : PP G (xW G a ((tkm v.1 dy dx v.1 64).1, v.2.1, v.2.2.1, v.2.2.2.1, v.2.2.2.2.1, v.2.2.2.2.2.1, v.2.2.2.2.2.2.1, v.2.2.2.2.2.2.2.1, v.2.2.2.2.2.2.2.2.1, v.2.2.2.2.2.2.2.2.2) mo ki pr df co bi g9 lr v.1 tn ln ((nx + 1) % 6) (min (ct + 1) 6) (va_up hv nx v) v0 k0 v1 k1 ++ [(oa, .inl (cL G, 1, .inr (.inl of)))]) H := hP
  have hD : va_D A (xW G a ((tkm v.1 dy dx v.1 64).1, v.2.1, v.2.2.1, v.2.2.2.1, v.2.2.2.2.1, v.2.2.2.2.2.1, v.2.2.2.2.2.2.1, v.2.2.2.2.2.2.2.1, v.2.2.2.2.2.2.2.2.1, v.2.2.2.2.2.2.2.2.2) mo ki pr df co bi g9 lr v.1 tn ln ((nx + 1) % 6) (min (ct + 1) 6) (va_up hv nx v) v0 k0 v1 k1 ++ [(oa, .inl (cL G, 1, .inr (.inl of)))]) := hD
  refine topE (v' := nI ((tkm v.1 dy dx v.1 64).2)) (q_2) ?_
  refine lv_i2l (v := (nI ((tkm v.1 dy dx v.1 64).2)).toInt64) hx hb dL_scroll_8 (rfl) ?_
  refine gOut hx hb hC.K hP hD hS dL_scroll_9 (fun H locs hP hD hS => ?_)
  have hP : PP G (xW G a ((tkm v.1 dy dx v.1 64).1, v.2.1, v.2.2.1, v.2.2.2.1, v.2.2.2.2.1, v.2.2.2.2.2.1, v.2.2.2.2.2.2.1, v.2.2.2.2.2.2.2.1, v.2.2.2.2.2.2.2.2.1, v.2.2.2.2.2.2.2.2.2) mo ki pr df co bi g9 lr v.1 tn ln ((nx + 1) % 6) (min (ct + 1) 6) (va_up hv nx v) v0 k0 v1 k1 ++ [(oa, .inl (cL G, 1, .inr (.inl (vp_updL of 0 ((nI ((tkm v.1 dy dx v.1 64).2)).toInt64)))))]) H := hP
  have hD : va_D A (xW G a ((tkm v.1 dy dx v.1 64).1, v.2.1, v.2.2.1, v.2.2.2.1, v.2.2.2.2.1, v.2.2.2.2.2.1, v.2.2.2.2.2.2.1, v.2.2.2.2.2.2.2.1, v.2.2.2.2.2.2.2.2.1, v.2.2.2.2.2.2.2.2.2) mo ki pr df co bi g9 lr v.1 tn ln ((nx + 1) % 6) (min (ct + 1) 6) (va_up hv nx v) v0 k0 v1 k1 ++ [(oa, .inl (cL G, 1, .inr (.inl (vp_updL of 0 ((nI ((tkm v.1 dy dx v.1 64).2)).toInt64)))))]) := hD
  refine lv_goto (tgt := 17) hx hb dL_scroll_10 (by decide) ?_
  refine lv_iconst (v := nI (0)) hx hb dL_scroll_17 (by decide) ?_
  exact xMi (G := G) (post := (fun (r : Int32) (u : Unit) => r = nI 0)) (w1 := (fun (u : Unit) => xW G a ((tkm v.1 dy dx v.1 64).1, v.2.1, v.2.2.1, v.2.2.2.1, v.2.2.2.2.1, v.2.2.2.2.2.1, v.2.2.2.2.2.2.1, v.2.2.2.2.2.2.2.1, v.2.2.2.2.2.2.2.2.1, v.2.2.2.2.2.2.2.2.2) mo ki pr df co bi g9 lr v.1 tn ln ((nx + 1) % 6) (min (ct + 1) 6) (va_up hv nx v) v0 k0 v1 k1 ++ [(oa, .inl (cL G, 1, .inr (.inl (vp_updL of 0 ((nI ((tkm v.1 dy dx v.1 64).2)).toInt64)))))])) (()) hx hb hr hlocks hP hS (by exact rfl) (by exact rfl) dL_scroll_18

set_option maxHeartbeats 4000000 in
set_option maxRecDepth 100000 in
theorem c_L_setBudget {l : Launch} {G : GT} {H0 : Heap} (a : Nat → Nat) (v : SVT) (mo ki : Nat → Nat) (pr df : Nat → Int) (co : Int32) (bi : Nat) (g9 : Nat → Int32) (lr : Nat) (bf : Nat → Int) (tn : Nat → Nat) (ln nx ct : Nat) (hv : Nat → SVT) (v0 : SVT) (k0 : Nat) (v1 : SVT) (k1 : Nat) (oa : Nat) (of : Nat → Int64) (q : Nat) (hnx : nx < 6) (hct : ct ≤ 6) (hq : 4 ≤ q ∧ q ≤ 300) (hP0 : PP G (xW G a v mo ki pr df co bi g9 lr bf tn ln nx ct hv v0 k0 v1 k1 ++ [(oa, .inl (cL G, 1, .inr (.inl of)))]) H0) (hB0 : va_D (lo G) (xW G a v mo ki pr df co bi g9 lr bf tn ln nx ct hv v0 k0 v1 k1 ++ [(oa, .inl (cL G, 1, .inr (.inl of)))])) : Met l yL_setBudget wsL_setBudget ({ frames := 5, cells := 0, slots := 0, locals := 110 } : Room) (pcG G [.ref (a 0), .int (nI (q)), .ref oa] H0) (qMi G (fun (r : Int32) (u : Unit) => r = nI 0) (fun (u : Unit) => xW G a (v.1, v.2.1, v.2.2.1, v.2.2.2.1, v.2.2.2.2.1, q, v.2.2.2.2.2.2.1, v.2.2.2.2.2.2.2.1, v.2.2.2.2.2.2.2.2.1, v.2.2.2.2.2.2.2.2.2) mo ki pr df co bi g9 lr bf tn ln ((nx + 1) % 6) (min (ct + 1) 6) (va_up hv nx v) v0 k0 v1 k1 ++ [(oa, .inl (cL G, 1, .inr (.inl (vp_updL of 0 ((nI (v.2.2.2.2.2.1)).toInt64)))))]) (xW G a v mo ki pr df co bi g9 lr bf tn ln nx ct hv v0 k0 v1 k1 ++ [(oa, .inl (cL G, 1, .inr (.inl of)))]) H0) 0 0 (va_A (xW G a v mo ki pr df co bi g9 lr bf tn ln nx ct hv v0 k0 v1 k1 ++ [(oa, .inl (cL G, 1, .inr (.inl of)))]) H0.size) := by
  refine enterH (cc := cL_setBudget) (maxL := 4) (ret := some .int) (own := RL) (lv := [(0, .ref (a 0)), (1, .int (nI (q))), (2, .ref oa)]) (by decide) rfl rfl rfl (Nat.le_of_ble_eq_true rfl) ?_
  intro pg ev s m below meth c hx hb hr hts hown hlocks hml htab hH hC ls hl
  subst hH
  have hLo := va_freeB hB0 hC.2.2.2.1
  have hD := hB0.self (sz := s.heap.size)
  have hS : va_S (va_A (xW G a v mo ki pr df co bi g9 lr bf tn ln nx ct hv v0 k0 v1 k1 ++ [(oa, .inl (cL G, 1, .inr (.inl of)))]) s.heap.size) s.heap s.heap [] := va_S.rf
  unfold qMi
  generalize hAe : va_A (xW G a v mo ki pr df co bi g9 lr bf tn ln nx ct hv v0 k0 v1 k1 ++ [(oa, .inl (cL G, 1, .inr (.inl of)))]) s.heap.size = A at hD hLo hS ⊢
  have hA : ∀ q, s.heap.size ≤ q → A q := fun q h => by rw [← hAe]; exact Or.inr h
  generalize ([] : List Loc) = locs at hS ⊢
  have hP := hP0
  refine lv_aload_n hx hb dL_setBudget_0 rfl (lv_at hl 2 rfl) ?_
  refine lv_iconst (v := nI (0)) hx hb dL_setBudget_1 (by decide) ?_
  refine lv_aload_n hx hb dL_setBudget_2 rfl (lv_at hl 0 rfl) ?_
  refine lv_iload_n hx hb dL_setBudget_3 rfl (lv_at hl 1 rfl) ?_
  refine kPreI (va_runV (As := [.int (nI (q))]) (rest := [.int (nI (0)), .ref oa]) ⟨hx, hb, hml, hown, hts⟩ (c_X8_setBudget a v mo ki pr df co bi g9 lr bf tn ln nx ct hv v0 k0 v1 k1 q (by first | assumption | omega) (by first | assumption | omega) (by first | assumption | omega) (pre_P hP) ((pre_D hD).weaken (fun _ _ _ h => hLo _ h))) (cwV 1 hts gL_setBudget_X8_setBudget rfl rfl rfl (by decide +kernel) ⟨Nat.le_of_ble_eq_true rfl, Nat.le_of_ble_eq_true rfl⟩) (preV hC hS hLo hP (ci := 7) (q0 := 0) rfl rfl) rfl rfl hl.1 rfl (lv_room (Nat.le_of_ble_eq_true rfl)) dL_setBudget_4 ⟨Nat.zero_le _, Nat.zero_le _⟩) hP hD hS hA (fun _ => rfl) (fun r_3 u_1 H locs q_2 hP hD hS => ?_)
  have hP : PP G (xW G a (v.1, v.2.1, v.2.2.1, v.2.2.2.1, v.2.2.2.2.1, q, v.2.2.2.2.2.2.1, v.2.2.2.2.2.2.2.1, v.2.2.2.2.2.2.2.2.1, v.2.2.2.2.2.2.2.2.2) mo ki pr df co bi g9 lr bf tn ln ((nx + 1) % 6) (min (ct + 1) 6) (va_up hv nx v) v0 k0 v1 k1 ++ [(oa, .inl (cL G, 1, .inr (.inl of)))]) H := hP
  have hD : va_D A (xW G a (v.1, v.2.1, v.2.2.1, v.2.2.2.1, v.2.2.2.2.1, q, v.2.2.2.2.2.2.1, v.2.2.2.2.2.2.2.1, v.2.2.2.2.2.2.2.2.1, v.2.2.2.2.2.2.2.2.2) mo ki pr df co bi g9 lr bf tn ln ((nx + 1) % 6) (min (ct + 1) 6) (va_up hv nx v) v0 k0 v1 k1 ++ [(oa, .inl (cL G, 1, .inr (.inl of)))]) := hD
  refine topE (v' := nI (v.2.2.2.2.2.1)) (q_2) ?_
  refine lv_i2l (v := (nI (v.2.2.2.2.2.1)).toInt64) hx hb dL_setBudget_7 (rfl) ?_
  refine gOut hx hb hC.K hP hD hS dL_setBudget_8 (fun H locs hP hD hS => ?_)
  have hP : PP G (xW G a (v.1, v.2.1, v.2.2.1, v.2.2.2.1, v.2.2.2.2.1, q, v.2.2.2.2.2.2.1, v.2.2.2.2.2.2.2.1, v.2.2.2.2.2.2.2.2.1, v.2.2.2.2.2.2.2.2.2) mo ki pr df co bi g9 lr bf tn ln ((nx + 1) % 6) (min (ct + 1) 6) (va_up hv nx v) v0 k0 v1 k1 ++ [(oa, .inl (cL G, 1, .inr (.inl (vp_updL of 0 ((nI (v.2.2.2.2.2.1)).toInt64)))))]) H := hP
  have hD : va_D A (xW G a (v.1, v.2.1, v.2.2.1, v.2.2.2.1, v.2.2.2.2.1, q, v.2.2.2.2.2.2.1, v.2.2.2.2.2.2.2.1, v.2.2.2.2.2.2.2.2.1, v.2.2.2.2.2.2.2.2.2) mo ki pr df co bi g9 lr bf tn ln ((nx + 1) % 6) (min (ct + 1) 6) (va_up hv nx v) v0 k0 v1 k1 ++ [(oa, .inl (cL G, 1, .inr (.inl (vp_updL of 0 ((nI (v.2.2.2.2.2.1)).toInt64)))))]) := hD
  refine lv_goto (tgt := 15) hx hb dL_setBudget_9 (by decide) ?_
  refine lv_iconst (v := nI (0)) hx hb dL_setBudget_15 (by decide) ?_
  exact xMi (G := G) (post := (fun (r : Int32) (u : Unit) => r = nI 0)) (w1 := (fun (u : Unit) => xW G a (v.1, v.2.1, v.2.2.1, v.2.2.2.1, v.2.2.2.2.1, q, v.2.2.2.2.2.2.1, v.2.2.2.2.2.2.2.1, v.2.2.2.2.2.2.2.2.1, v.2.2.2.2.2.2.2.2.2) mo ki pr df co bi g9 lr bf tn ln ((nx + 1) % 6) (min (ct + 1) 6) (va_up hv nx v) v0 k0 v1 k1 ++ [(oa, .inl (cL G, 1, .inr (.inl (vp_updL of 0 ((nI (v.2.2.2.2.2.1)).toInt64)))))])) (()) hx hb hr hlocks hP hS (by exact rfl) (by exact rfl) dL_setBudget_16

set_option maxHeartbeats 4000000 in
set_option maxRecDepth 100000 in
theorem c_L_setKeyDistance {l : Launch} {G : GT} {H0 : Heap} (a : Nat → Nat) (v : SVT) (mo ki : Nat → Nat) (pr df : Nat → Int) (co : Int32) (bi : Nat) (g9 : Nat → Int32) (lr : Nat) (bf : Nat → Int) (tn : Nat → Nat) (ln nx ct : Nat) (hv : Nat → SVT) (v0 : SVT) (k0 : Nat) (v1 : SVT) (k1 : Nat) (oa : Nat) (of : Nat → Int64) (q : Nat) (hnx : nx < 6) (hct : ct ≤ 6) (hq : 1 ≤ q ∧ q ≤ 20) (hP0 : PP G (xW G a v mo ki pr df co bi g9 lr bf tn ln nx ct hv v0 k0 v1 k1 ++ [(oa, .inl (cL G, 1, .inr (.inl of)))]) H0) (hB0 : va_D (lo G) (xW G a v mo ki pr df co bi g9 lr bf tn ln nx ct hv v0 k0 v1 k1 ++ [(oa, .inl (cL G, 1, .inr (.inl of)))])) : Met l yL_setKeyDistance wsL_setKeyDistance ({ frames := 5, cells := 0, slots := 0, locals := 110 } : Room) (pcG G [.ref (a 0), .int (nI (q)), .ref oa] H0) (qMi G (fun (r : Int32) (u : Unit) => r = nI 0) (fun (u : Unit) => xW G a (v.1, v.2.1, v.2.2.1, v.2.2.2.1, v.2.2.2.2.1, v.2.2.2.2.2.1, q, v.2.2.2.2.2.2.2.1, v.2.2.2.2.2.2.2.2.1, v.2.2.2.2.2.2.2.2.2) mo ki pr df co bi g9 lr bf tn ln ((nx + 1) % 6) (min (ct + 1) 6) (va_up hv nx v) v0 k0 v1 k1 ++ [(oa, .inl (cL G, 1, .inr (.inl (vp_updL of 0 ((nI (v.2.2.2.2.2.2.1)).toInt64)))))]) (xW G a v mo ki pr df co bi g9 lr bf tn ln nx ct hv v0 k0 v1 k1 ++ [(oa, .inl (cL G, 1, .inr (.inl of)))]) H0) 0 0 (va_A (xW G a v mo ki pr df co bi g9 lr bf tn ln nx ct hv v0 k0 v1 k1 ++ [(oa, .inl (cL G, 1, .inr (.inl of)))]) H0.size) := by
  refine enterH (cc := cL_setKeyDistance) (maxL := 4) (ret := some .int) (own := RL) (lv := [(0, .ref (a 0)), (1, .int (nI (q))), (2, .ref oa)]) (by decide) rfl rfl rfl (Nat.le_of_ble_eq_true rfl) ?_
  intro pg ev s m below meth c hx hb hr hts hown hlocks hml htab hH hC ls hl
  subst hH
  have hLo := va_freeB hB0 hC.2.2.2.1
  have hD := hB0.self (sz := s.heap.size)
  have hS : va_S (va_A (xW G a v mo ki pr df co bi g9 lr bf tn ln nx ct hv v0 k0 v1 k1 ++ [(oa, .inl (cL G, 1, .inr (.inl of)))]) s.heap.size) s.heap s.heap [] := va_S.rf
  unfold qMi
  generalize hAe : va_A (xW G a v mo ki pr df co bi g9 lr bf tn ln nx ct hv v0 k0 v1 k1 ++ [(oa, .inl (cL G, 1, .inr (.inl of)))]) s.heap.size = A at hD hLo hS ⊢
  have hA : ∀ q, s.heap.size ≤ q → A q := fun q h => by rw [← hAe]; exact Or.inr h
  generalize ([] : List Loc) = locs at hS ⊢
  have hP := hP0
  refine lv_aload_n hx hb dL_setKeyDistance_0 rfl (lv_at hl 2 rfl) ?_
  refine lv_iconst (v := nI (0)) hx hb dL_setKeyDistance_1 (by decide) ?_
  refine lv_aload_n hx hb dL_setKeyDistance_2 rfl (lv_at hl 0 rfl) ?_
  refine lv_iload_n hx hb dL_setKeyDistance_3 rfl (lv_at hl 1 rfl) ?_
  refine kPreI (va_runV (As := [.int (nI (q))]) (rest := [.int (nI (0)), .ref oa]) ⟨hx, hb, hml, hown, hts⟩ (c_X8_setKeyDistance a v mo ki pr df co bi g9 lr bf tn ln nx ct hv v0 k0 v1 k1 q (by first | assumption | omega) (by first | assumption | omega) (by first | assumption | omega) (pre_P hP) ((pre_D hD).weaken (fun _ _ _ h => hLo _ h))) (cwV 1 hts gL_setKeyDistance_X8_setKeyDistance rfl rfl rfl (by decide +kernel) ⟨Nat.le_of_ble_eq_true rfl, Nat.le_of_ble_eq_true rfl⟩) (preV hC hS hLo hP (ci := 7) (q0 := 0) rfl rfl) rfl rfl hl.1 rfl (lv_room (Nat.le_of_ble_eq_true rfl)) dL_setKeyDistance_4 ⟨Nat.zero_le _, Nat.zero_le _⟩) hP hD hS hA (fun _ => rfl) (fun r_3 u_1 H locs q_2 hP hD hS => ?_)
  have hP : PP G (xW G a (v.1, v.2.1, v.2.2.1, v.2.2.2.1, v.2.2.2.2.1, v.2.2.2.2.2.1, q, v.2.2.2.2.2.2.2.1, v.2.2.2.2.2.2.2.2.1, v.2.2.2.2.2.2.2.2.2) mo ki pr df co bi g9 lr bf tn ln ((nx + 1) % 6) (min (ct + 1) 6) (va_up hv nx v) v0 k0 v1 k1 ++ [(oa, .inl (cL G, 1, .inr (.inl of)))]) H := hP
  have hD : va_D A (xW G a (v.1, v.2.1, v.2.2.1, v.2.2.2.1, v.2.2.2.2.1, v.2.2.2.2.2.1, q, v.2.2.2.2.2.2.2.1, v.2.2.2.2.2.2.2.2.1, v.2.2.2.2.2.2.2.2.2) mo ki pr df co bi g9 lr bf tn ln ((nx + 1) % 6) (min (ct + 1) 6) (va_up hv nx v) v0 k0 v1 k1 ++ [(oa, .inl (cL G, 1, .inr (.inl of)))]) := hD
  refine topE (v' := nI (v.2.2.2.2.2.2.1)) (q_2) ?_
  refine lv_i2l (v := (nI (v.2.2.2.2.2.2.1)).toInt64) hx hb dL_setKeyDistance_7 (rfl) ?_
  refine gOut hx hb hC.K hP hD hS dL_setKeyDistance_8 (fun H locs hP hD hS => ?_)
  have hP : PP G (xW G a (v.1, v.2.1, v.2.2.1, v.2.2.2.1, v.2.2.2.2.1, v.2.2.2.2.2.1, q, v.2.2.2.2.2.2.2.1, v.2.2.2.2.2.2.2.2.1, v.2.2.2.2.2.2.2.2.2) mo ki pr df co bi g9 lr bf tn ln ((nx + 1) % 6) (min (ct + 1) 6) (va_up hv nx v) v0 k0 v1 k1 ++ [(oa, .inl (cL G, 1, .inr (.inl (vp_updL of 0 ((nI (v.2.2.2.2.2.2.1)).toInt64)))))]) H := hP
  have hD : va_D A (xW G a (v.1, v.2.1, v.2.2.1, v.2.2.2.1, v.2.2.2.2.1, v.2.2.2.2.2.1, q, v.2.2.2.2.2.2.2.1, v.2.2.2.2.2.2.2.2.1, v.2.2.2.2.2.2.2.2.2) mo ki pr df co bi g9 lr bf tn ln ((nx + 1) % 6) (min (ct + 1) 6) (va_up hv nx v) v0 k0 v1 k1 ++ [(oa, .inl (cL G, 1, .inr (.inl (vp_updL of 0 ((nI (v.2.2.2.2.2.2.1)).toInt64)))))]) := hD
  refine lv_goto (tgt := 15) hx hb dL_setKeyDistance_9 (by decide) ?_
  refine lv_iconst (v := nI (0)) hx hb dL_setKeyDistance_15 (by decide) ?_
  exact xMi (G := G) (post := (fun (r : Int32) (u : Unit) => r = nI 0)) (w1 := (fun (u : Unit) => xW G a (v.1, v.2.1, v.2.2.1, v.2.2.2.1, v.2.2.2.2.1, v.2.2.2.2.2.1, q, v.2.2.2.2.2.2.2.1, v.2.2.2.2.2.2.2.2.1, v.2.2.2.2.2.2.2.2.2) mo ki pr df co bi g9 lr bf tn ln ((nx + 1) % 6) (min (ct + 1) 6) (va_up hv nx v) v0 k0 v1 k1 ++ [(oa, .inl (cL G, 1, .inr (.inl (vp_updL of 0 ((nI (v.2.2.2.2.2.2.1)).toInt64)))))])) (()) hx hb hr hlocks hP hS (by exact rfl) (by exact rfl) dL_setKeyDistance_16

set_option maxHeartbeats 4000000 in
set_option maxRecDepth 100000 in
theorem c_L_drawnAt {l : Launch} {G : GT} {H0 : Heap} (a : Nat → Nat) (v : SVT) (mo ki : Nat → Nat) (pr df : Nat → Int) (co : Int32) (bi : Nat) (g9 : Nat → Int32) (lr : Nat) (bf : Nat → Int) (tn : Nat → Nat) (ln nx ct : Nat) (hv : Nat → SVT) (v0 : SVT) (k0 : Nat) (v1 : SVT) (k1 : Nat) (oa : Nat) (of : Nat → Int64) (p : Nat) (hp : p < 64) (hP0 : PP G (xW G a v mo ki pr df co bi g9 lr bf tn ln nx ct hv v0 k0 v1 k1 ++ [(oa, .inl (cL G, 1, .inr (.inl of)))]) H0) (hB0 : va_D (lo G) (xW G a v mo ki pr df co bi g9 lr bf tn ln nx ct hv v0 k0 v1 k1 ++ [(oa, .inl (cL G, 1, .inr (.inl of)))])) : Met l yL_drawnAt wsL_drawnAt ({ frames := 2, cells := 0, slots := 0, locals := 42 } : Room) (pcG G [.ref (a 0), .int (nI (p)), .ref oa] H0) (qMi G (fun (r : Int32) (u : Unit) => r = nI 0) (fun (u : Unit) => xW G a v mo ki pr df co bi g9 lr bf tn ln nx ct hv v0 k0 v1 k1 ++ [(oa, .inl (cL G, 1, .inr (.inl (vp_updL of 0 ((iI (v.1 p)).toInt64)))))]) (xW G a v mo ki pr df co bi g9 lr bf tn ln nx ct hv v0 k0 v1 k1 ++ [(oa, .inl (cL G, 1, .inr (.inl of)))]) H0) 0 0 (va_A (xW G a v mo ki pr df co bi g9 lr bf tn ln nx ct hv v0 k0 v1 k1 ++ [(oa, .inl (cL G, 1, .inr (.inl of)))]) H0.size) := by
  refine enterH (cc := cL_drawnAt) (maxL := 4) (ret := some .int) (own := RL) (lv := [(0, .ref (a 0)), (1, .int (nI (p))), (2, .ref oa)]) (by decide) rfl rfl rfl (Nat.le_of_ble_eq_true rfl) ?_
  intro pg ev s m below meth c hx hb hr hts hown hlocks hml htab hH hC ls hl
  subst hH
  have hLo := va_freeB hB0 hC.2.2.2.1
  have hD := hB0.self (sz := s.heap.size)
  have hS : va_S (va_A (xW G a v mo ki pr df co bi g9 lr bf tn ln nx ct hv v0 k0 v1 k1 ++ [(oa, .inl (cL G, 1, .inr (.inl of)))]) s.heap.size) s.heap s.heap [] := va_S.rf
  unfold qMi
  generalize hAe : va_A (xW G a v mo ki pr df co bi g9 lr bf tn ln nx ct hv v0 k0 v1 k1 ++ [(oa, .inl (cL G, 1, .inr (.inl of)))]) s.heap.size = A at hD hLo hS ⊢
  have hA : ∀ q, s.heap.size ≤ q → A q := fun q h => by rw [← hAe]; exact Or.inr h
  generalize ([] : List Loc) = locs at hS ⊢
  have hP := hP0
  refine lv_aload_n hx hb dL_drawnAt_0 rfl (lv_at hl 2 rfl) ?_
  refine lv_iconst (v := nI (0)) hx hb dL_drawnAt_1 (by decide) ?_
  refine lv_aload_n hx hb dL_drawnAt_2 rfl (lv_at hl 0 rfl) ?_
  refine lv_iload_n hx hb dL_drawnAt_3 rfl (lv_at hl 1 rfl) ?_
  refine kPi (va_runV (As := [.int (nI (p))]) (rest := [.int (nI (0)), .ref oa]) ⟨hx, hb, hml, hown, hts⟩ (c_X8_drawnAt a v p (by first | assumption | omega) (xW_now (pre_P hP))) (cwV 1 hts gL_drawnAt_X8_drawnAt rfl rfl rfl (by decide +kernel) ⟨Nat.le_of_ble_eq_true rfl, Nat.le_of_ble_eq_true rfl⟩) (preV hC hS hLo hP (ci := 7) (q0 := 0) rfl rfl) rfl rfl hl.1 rfl (lv_room (Nat.le_of_ble_eq_true rfl)) dL_drawnAt_4 ⟨Nat.zero_le _, Nat.zero_le _⟩) hS (fun locs hS => ?_)
  refine lv_i2l (v := (iI (v.1 p)).toInt64) hx hb dL_drawnAt_7 (rfl) ?_
  refine gOut hx hb hC.K hP hD hS dL_drawnAt_8 (fun H locs hP hD hS => ?_)
  have hP : PP G (xW G a v mo ki pr df co bi g9 lr bf tn ln nx ct hv v0 k0 v1 k1 ++ [(oa, .inl (cL G, 1, .inr (.inl (vp_updL of 0 ((iI (v.1 p)).toInt64)))))]) H := hP
  have hD : va_D A (xW G a v mo ki pr df co bi g9 lr bf tn ln nx ct hv v0 k0 v1 k1 ++ [(oa, .inl (cL G, 1, .inr (.inl (vp_updL of 0 ((iI (v.1 p)).toInt64)))))]) := hD
  refine lv_goto (tgt := 15) hx hb dL_drawnAt_9 (by decide) ?_
  refine lv_iconst (v := nI (0)) hx hb dL_drawnAt_15 (by decide) ?_
  exact xMi (G := G) (post := (fun (r : Int32) (u : Unit) => r = nI 0)) (w1 := (fun (u : Unit) => xW G a v mo ki pr df co bi g9 lr bf tn ln nx ct hv v0 k0 v1 k1 ++ [(oa, .inl (cL G, 1, .inr (.inl (vp_updL of 0 ((iI (v.1 p)).toInt64)))))])) (()) hx hb hr hlocks hP hS (by exact rfl) (by exact rfl) dL_drawnAt_16

set_option maxHeartbeats 4000000 in
set_option maxRecDepth 100000 in
theorem c_L_sentAt {l : Launch} {G : GT} {H0 : Heap} (a : Nat → Nat) (v : SVT) (mo ki : Nat → Nat) (pr df : Nat → Int) (co : Int32) (bi : Nat) (g9 : Nat → Int32) (lr : Nat) (bf : Nat → Int) (tn : Nat → Nat) (ln nx ct : Nat) (hv : Nat → SVT) (v0 : SVT) (k0 : Nat) (v1 : SVT) (k1 : Nat) (oa : Nat) (of : Nat → Int64) (p : Nat) (hp : p < 64) (hP0 : PP G (xW G a v mo ki pr df co bi g9 lr bf tn ln nx ct hv v0 k0 v1 k1 ++ [(oa, .inl (cL G, 1, .inr (.inl of)))]) H0) (hB0 : va_D (lo G) (xW G a v mo ki pr df co bi g9 lr bf tn ln nx ct hv v0 k0 v1 k1 ++ [(oa, .inl (cL G, 1, .inr (.inl of)))])) : Met l yL_sentAt wsL_sentAt ({ frames := 2, cells := 0, slots := 0, locals := 42 } : Room) (pcG G [.ref (a 0), .int (nI (p)), .ref oa] H0) (qMi G (fun (r : Int32) (u : Unit) => r = nI 0) (fun (u : Unit) => xW G a v mo ki pr df co bi g9 lr bf tn ln nx ct hv v0 k0 v1 k1 ++ [(oa, .inl (cL G, 1, .inr (.inl (vp_updL of 0 ((iI (v.2.1 p)).toInt64)))))]) (xW G a v mo ki pr df co bi g9 lr bf tn ln nx ct hv v0 k0 v1 k1 ++ [(oa, .inl (cL G, 1, .inr (.inl of)))]) H0) 0 0 (va_A (xW G a v mo ki pr df co bi g9 lr bf tn ln nx ct hv v0 k0 v1 k1 ++ [(oa, .inl (cL G, 1, .inr (.inl of)))]) H0.size) := by
  refine enterH (cc := cL_sentAt) (maxL := 4) (ret := some .int) (own := RL) (lv := [(0, .ref (a 0)), (1, .int (nI (p))), (2, .ref oa)]) (by decide) rfl rfl rfl (Nat.le_of_ble_eq_true rfl) ?_
  intro pg ev s m below meth c hx hb hr hts hown hlocks hml htab hH hC ls hl
  subst hH
  have hLo := va_freeB hB0 hC.2.2.2.1
  have hD := hB0.self (sz := s.heap.size)
  have hS : va_S (va_A (xW G a v mo ki pr df co bi g9 lr bf tn ln nx ct hv v0 k0 v1 k1 ++ [(oa, .inl (cL G, 1, .inr (.inl of)))]) s.heap.size) s.heap s.heap [] := va_S.rf
  unfold qMi
  generalize hAe : va_A (xW G a v mo ki pr df co bi g9 lr bf tn ln nx ct hv v0 k0 v1 k1 ++ [(oa, .inl (cL G, 1, .inr (.inl of)))]) s.heap.size = A at hD hLo hS ⊢
  have hA : ∀ q, s.heap.size ≤ q → A q := fun q h => by rw [← hAe]; exact Or.inr h
  generalize ([] : List Loc) = locs at hS ⊢
  have hP := hP0
  refine lv_aload_n hx hb dL_sentAt_0 rfl (lv_at hl 2 rfl) ?_
  refine lv_iconst (v := nI (0)) hx hb dL_sentAt_1 (by decide) ?_
  refine lv_aload_n hx hb dL_sentAt_2 rfl (lv_at hl 0 rfl) ?_
  refine lv_iload_n hx hb dL_sentAt_3 rfl (lv_at hl 1 rfl) ?_
  refine kPi (va_runV (As := [.int (nI (p))]) (rest := [.int (nI (0)), .ref oa]) ⟨hx, hb, hml, hown, hts⟩ (c_X8_sentAt a v p (by first | assumption | omega) (xW_now (pre_P hP))) (cwV 1 hts gL_sentAt_X8_sentAt rfl rfl rfl (by decide +kernel) ⟨Nat.le_of_ble_eq_true rfl, Nat.le_of_ble_eq_true rfl⟩) (preV hC hS hLo hP (ci := 7) (q0 := 0) rfl rfl) rfl rfl hl.1 rfl (lv_room (Nat.le_of_ble_eq_true rfl)) dL_sentAt_4 ⟨Nat.zero_le _, Nat.zero_le _⟩) hS (fun locs hS => ?_)
  refine lv_i2l (v := (iI (v.2.1 p)).toInt64) hx hb dL_sentAt_7 (rfl) ?_
  refine gOut hx hb hC.K hP hD hS dL_sentAt_8 (fun H locs hP hD hS => ?_)
  have hP : PP G (xW G a v mo ki pr df co bi g9 lr bf tn ln nx ct hv v0 k0 v1 k1 ++ [(oa, .inl (cL G, 1, .inr (.inl (vp_updL of 0 ((iI (v.2.1 p)).toInt64)))))]) H := hP
  have hD : va_D A (xW G a v mo ki pr df co bi g9 lr bf tn ln nx ct hv v0 k0 v1 k1 ++ [(oa, .inl (cL G, 1, .inr (.inl (vp_updL of 0 ((iI (v.2.1 p)).toInt64)))))]) := hD
  refine lv_goto (tgt := 15) hx hb dL_sentAt_9 (by decide) ?_
  refine lv_iconst (v := nI (0)) hx hb dL_sentAt_15 (by decide) ?_
  exact xMi (G := G) (post := (fun (r : Int32) (u : Unit) => r = nI 0)) (w1 := (fun (u : Unit) => xW G a v mo ki pr df co bi g9 lr bf tn ln nx ct hv v0 k0 v1 k1 ++ [(oa, .inl (cL G, 1, .inr (.inl (vp_updL of 0 ((iI (v.2.1 p)).toInt64)))))])) (()) hx hb hr hlocks hP hS (by exact rfl) (by exact rfl) dL_sentAt_16

set_option maxHeartbeats 4000000 in
set_option maxRecDepth 100000 in
theorem c_L_receivedAt {l : Launch} {G : GT} {H0 : Heap} (a : Nat → Nat) (v : SVT) (mo ki : Nat → Nat) (pr df : Nat → Int) (co : Int32) (bi : Nat) (g9 : Nat → Int32) (lr : Nat) (bf : Nat → Int) (tn : Nat → Nat) (ln nx ct : Nat) (hv : Nat → SVT) (v0 : SVT) (k0 : Nat) (v1 : SVT) (k1 : Nat) (oa : Nat) (of : Nat → Int64) (p : Nat) (hp : p < 64) (hP0 : PP G (xW G a v mo ki pr df co bi g9 lr bf tn ln nx ct hv v0 k0 v1 k1 ++ [(oa, .inl (cL G, 1, .inr (.inl of)))]) H0) (hB0 : va_D (lo G) (xW G a v mo ki pr df co bi g9 lr bf tn ln nx ct hv v0 k0 v1 k1 ++ [(oa, .inl (cL G, 1, .inr (.inl of)))])) : Met l yL_receivedAt wsL_receivedAt ({ frames := 2, cells := 0, slots := 0, locals := 42 } : Room) (pcG G [.ref (a 0), .int (nI (p)), .ref oa] H0) (qMi G (fun (r : Int32) (u : Unit) => r = nI 0) (fun (u : Unit) => xW G a v mo ki pr df co bi g9 lr bf tn ln nx ct hv v0 k0 v1 k1 ++ [(oa, .inl (cL G, 1, .inr (.inl (vp_updL of 0 ((iI (v.2.2.1 p)).toInt64)))))]) (xW G a v mo ki pr df co bi g9 lr bf tn ln nx ct hv v0 k0 v1 k1 ++ [(oa, .inl (cL G, 1, .inr (.inl of)))]) H0) 0 0 (va_A (xW G a v mo ki pr df co bi g9 lr bf tn ln nx ct hv v0 k0 v1 k1 ++ [(oa, .inl (cL G, 1, .inr (.inl of)))]) H0.size) := by
  refine enterH (cc := cL_receivedAt) (maxL := 4) (ret := some .int) (own := RL) (lv := [(0, .ref (a 0)), (1, .int (nI (p))), (2, .ref oa)]) (by decide) rfl rfl rfl (Nat.le_of_ble_eq_true rfl) ?_
  intro pg ev s m below meth c hx hb hr hts hown hlocks hml htab hH hC ls hl
  subst hH
  have hLo := va_freeB hB0 hC.2.2.2.1
  have hD := hB0.self (sz := s.heap.size)
  have hS : va_S (va_A (xW G a v mo ki pr df co bi g9 lr bf tn ln nx ct hv v0 k0 v1 k1 ++ [(oa, .inl (cL G, 1, .inr (.inl of)))]) s.heap.size) s.heap s.heap [] := va_S.rf
  unfold qMi
  generalize hAe : va_A (xW G a v mo ki pr df co bi g9 lr bf tn ln nx ct hv v0 k0 v1 k1 ++ [(oa, .inl (cL G, 1, .inr (.inl of)))]) s.heap.size = A at hD hLo hS ⊢
  have hA : ∀ q, s.heap.size ≤ q → A q := fun q h => by rw [← hAe]; exact Or.inr h
  generalize ([] : List Loc) = locs at hS ⊢
  have hP := hP0
  refine lv_aload_n hx hb dL_receivedAt_0 rfl (lv_at hl 2 rfl) ?_
  refine lv_iconst (v := nI (0)) hx hb dL_receivedAt_1 (by decide) ?_
  refine lv_aload_n hx hb dL_receivedAt_2 rfl (lv_at hl 0 rfl) ?_
  refine lv_iload_n hx hb dL_receivedAt_3 rfl (lv_at hl 1 rfl) ?_
  refine kPi (va_runV (As := [.int (nI (p))]) (rest := [.int (nI (0)), .ref oa]) ⟨hx, hb, hml, hown, hts⟩ (c_X8_receivedAt a v p (by first | assumption | omega) (xW_now (pre_P hP))) (cwV 1 hts gL_receivedAt_X8_receivedAt rfl rfl rfl (by decide +kernel) ⟨Nat.le_of_ble_eq_true rfl, Nat.le_of_ble_eq_true rfl⟩) (preV hC hS hLo hP (ci := 7) (q0 := 0) rfl rfl) rfl rfl hl.1 rfl (lv_room (Nat.le_of_ble_eq_true rfl)) dL_receivedAt_4 ⟨Nat.zero_le _, Nat.zero_le _⟩) hS (fun locs hS => ?_)
  refine lv_i2l (v := (iI (v.2.2.1 p)).toInt64) hx hb dL_receivedAt_7 (rfl) ?_
  refine gOut hx hb hC.K hP hD hS dL_receivedAt_8 (fun H locs hP hD hS => ?_)
  have hP : PP G (xW G a v mo ki pr df co bi g9 lr bf tn ln nx ct hv v0 k0 v1 k1 ++ [(oa, .inl (cL G, 1, .inr (.inl (vp_updL of 0 ((iI (v.2.2.1 p)).toInt64)))))]) H := hP
  have hD : va_D A (xW G a v mo ki pr df co bi g9 lr bf tn ln nx ct hv v0 k0 v1 k1 ++ [(oa, .inl (cL G, 1, .inr (.inl (vp_updL of 0 ((iI (v.2.2.1 p)).toInt64)))))]) := hD
  refine lv_goto (tgt := 15) hx hb dL_receivedAt_9 (by decide) ?_
  refine lv_iconst (v := nI (0)) hx hb dL_receivedAt_15 (by decide) ?_
  exact xMi (G := G) (post := (fun (r : Int32) (u : Unit) => r = nI 0)) (w1 := (fun (u : Unit) => xW G a v mo ki pr df co bi g9 lr bf tn ln nx ct hv v0 k0 v1 k1 ++ [(oa, .inl (cL G, 1, .inr (.inl (vp_updL of 0 ((iI (v.2.2.1 p)).toInt64)))))])) (()) hx hb hr hlocks hP hS (by exact rfl) (by exact rfl) dL_receivedAt_16

set_option maxHeartbeats 4000000 in
set_option maxRecDepth 100000 in
theorem c_L_distance {l : Launch} {G : GT} {H0 : Heap} (a : Nat → Nat) (v : SVT) (mo ki : Nat → Nat) (pr df : Nat → Int) (co : Int32) (bi : Nat) (g9 : Nat → Int32) (lr : Nat) (bf : Nat → Int) (tn : Nat → Nat) (ln nx ct : Nat) (hv : Nat → SVT) (v0 : SVT) (k0 : Nat) (v1 : SVT) (k1 : Nat) (oa : Nat) (of : Nat → Int64) (b mv : Nat) (hd : R15 v.1) (ht : R15 v.2.1) (hb4 : b < 4) (hm : mv < 25) (hP0 : PP G (xW G a v mo ki pr df co bi g9 lr bf tn ln nx ct hv v0 k0 v1 k1 ++ [(oa, .inl (cL G, 1, .inr (.inl of)))]) H0) (hB0 : va_D (lo G) (xW G a v mo ki pr df co bi g9 lr bf tn ln nx ct hv v0 k0 v1 k1 ++ [(oa, .inl (cL G, 1, .inr (.inl of)))])) : Met l yL_distance wsL_distance ({ frames := 3, cells := 0, slots := 0, locals := 74 } : Room) (pcG G [.ref (a 0), .int (nI (b)), .int (nI (mv)), .ref oa] H0) (qMi G (fun (r : Int32) (u : Unit) => r = nI 0) (fun (u : Unit) => xW G a v mo ki pr df co bi g9 lr bf tn ln nx ct hv v0 k0 v1 k1 ++ [(oa, .inl (cL G, 1, .inr (.inl (vp_updL of 0 ((iI (DIST v.1 v.2.1 b mv)).toInt64)))))]) (xW G a v mo ki pr df co bi g9 lr bf tn ln nx ct hv v0 k0 v1 k1 ++ [(oa, .inl (cL G, 1, .inr (.inl of)))]) H0) 0 0 (va_A (xW G a v mo ki pr df co bi g9 lr bf tn ln nx ct hv v0 k0 v1 k1 ++ [(oa, .inl (cL G, 1, .inr (.inl of)))]) H0.size) := by
  refine enterH (cc := cL_distance) (maxL := 5) (ret := some .int) (own := RL) (lv := [(0, .ref (a 0)), (1, .int (nI (b))), (2, .int (nI (mv))), (3, .ref oa)]) (by decide) rfl rfl rfl (Nat.le_of_ble_eq_true rfl) ?_
  intro pg ev s m below meth c hx hb hr hts hown hlocks hml htab hH hC ls hl
  subst hH
  have hLo := va_freeB hB0 hC.2.2.2.1
  have hD := hB0.self (sz := s.heap.size)
  have hS : va_S (va_A (xW G a v mo ki pr df co bi g9 lr bf tn ln nx ct hv v0 k0 v1 k1 ++ [(oa, .inl (cL G, 1, .inr (.inl of)))]) s.heap.size) s.heap s.heap [] := va_S.rf
  unfold qMi
  generalize hAe : va_A (xW G a v mo ki pr df co bi g9 lr bf tn ln nx ct hv v0 k0 v1 k1 ++ [(oa, .inl (cL G, 1, .inr (.inl of)))]) s.heap.size = A at hD hLo hS ⊢
  have hA : ∀ q, s.heap.size ≤ q → A q := fun q h => by rw [← hAe]; exact Or.inr h
  generalize ([] : List Loc) = locs at hS ⊢
  have hP := hP0
  refine lv_aload_n hx hb dL_distance_0 rfl (lv_at hl 3 rfl) ?_
  refine lv_iconst (v := nI (0)) hx hb dL_distance_1 (by decide) ?_
  refine lv_aload_n hx hb dL_distance_2 rfl (lv_at hl 0 rfl) ?_
  refine lv_iload_n hx hb dL_distance_3 rfl (lv_at hl 1 rfl) ?_
  refine lv_iload_n hx hb dL_distance_4 rfl (lv_at hl 2 rfl) ?_
  refine kPi (va_runV (As := [.int (nI (b)), .int (nI (mv))]) (rest := [.int (nI (0)), .ref oa]) ⟨hx, hb, hml, hown, hts⟩ (c_X8_distance a v b mv (by first | assumption | omega) (by first | assumption | omega) (by first | assumption | omega) (by first | assumption | omega) (xW_now (pre_P hP))) (cwV 2 hts gL_distance_X8_distance rfl rfl rfl (by decide +kernel) ⟨Nat.le_of_ble_eq_true rfl, Nat.le_of_ble_eq_true rfl⟩) (preV hC hS hLo hP (ci := 7) (q0 := 0) rfl rfl) rfl rfl hl.1 rfl (lv_room (Nat.le_of_ble_eq_true rfl)) dL_distance_5 ⟨Nat.zero_le _, Nat.zero_le _⟩) hS (fun locs hS => ?_)
  refine lv_i2l (v := (iI (DIST v.1 v.2.1 b mv)).toInt64) hx hb dL_distance_8 (rfl) ?_
  refine gOut hx hb hC.K hP hD hS dL_distance_9 (fun H locs hP hD hS => ?_)
  have hP : PP G (xW G a v mo ki pr df co bi g9 lr bf tn ln nx ct hv v0 k0 v1 k1 ++ [(oa, .inl (cL G, 1, .inr (.inl (vp_updL of 0 ((iI (DIST v.1 v.2.1 b mv)).toInt64)))))]) H := hP
  have hD : va_D A (xW G a v mo ki pr df co bi g9 lr bf tn ln nx ct hv v0 k0 v1 k1 ++ [(oa, .inl (cL G, 1, .inr (.inl (vp_updL of 0 ((iI (DIST v.1 v.2.1 b mv)).toInt64)))))]) := hD
  refine lv_goto (tgt := 17) hx hb dL_distance_10 (by decide) ?_
  refine lv_iconst (v := nI (0)) hx hb dL_distance_17 (by decide) ?_
  exact xMi (G := G) (post := (fun (r : Int32) (u : Unit) => r = nI 0)) (w1 := (fun (u : Unit) => xW G a v mo ki pr df co bi g9 lr bf tn ln nx ct hv v0 k0 v1 k1 ++ [(oa, .inl (cL G, 1, .inr (.inl (vp_updL of 0 ((iI (DIST v.1 v.2.1 b mv)).toInt64)))))])) (()) hx hb hr hlocks hP hS (by exact rfl) (by exact rfl) dL_distance_18

set_option maxHeartbeats 4000000 in
set_option maxRecDepth 100000 in
theorem c_L_bestMove {l : Launch} {G : GT} {H0 : Heap} (a : Nat → Nat) (v : SVT) (mo ki : Nat → Nat) (pr df : Nat → Int) (co : Int32) (bi : Nat) (g9 : Nat → Int32) (lr : Nat) (bf : Nat → Int) (tn : Nat → Nat) (ln nx ct : Nat) (hv : Nat → SVT) (v0 : SVT) (k0 : Nat) (v1 : SVT) (k1 : Nat) (oa : Nat) (of : Nat → Int64) (b : Nat) (hd : R15 v.1) (ht : R15 v.2.1) (hb4 : b < 4) (hP0 : PP G (xW G a v mo ki pr df co bi g9 lr bf tn ln nx ct hv v0 k0 v1 k1 ++ [(oa, .inl (cL G, 1, .inr (.inl of)))]) H0) (hB0 : va_D (lo G) (xW G a v mo ki pr df co bi g9 lr bf tn ln nx ct hv v0 k0 v1 k1 ++ [(oa, .inl (cL G, 1, .inr (.inl of)))])) : Met l yL_bestMove wsL_bestMove ({ frames := 4, cells := 0, slots := 0, locals := 98 } : Room) (pcG G [.ref (a 0), .int (nI (b)), .ref oa] H0) (qMi G (fun (r : Int32) (u : Unit) => r = nI 0) (fun (u : Unit) => xW G a v mo ki pr df co bi g9 lr bf tn ln nx ct hv v0 k0 v1 k1 ++ [(oa, .inl (cL G, 1, .inr (.inl (vp_updL of 0 ((nI (BEST v.1 v.2.1 b)).toInt64)))))]) (xW G a v mo ki pr df co bi g9 lr bf tn ln nx ct hv v0 k0 v1 k1 ++ [(oa, .inl (cL G, 1, .inr (.inl of)))]) H0) 0 0 (va_A (xW G a v mo ki pr df co bi g9 lr bf tn ln nx ct hv v0 k0 v1 k1 ++ [(oa, .inl (cL G, 1, .inr (.inl of)))]) H0.size) := by
  refine enterH (cc := cL_bestMove) (maxL := 4) (ret := some .int) (own := RL) (lv := [(0, .ref (a 0)), (1, .int (nI (b))), (2, .ref oa)]) (by decide) rfl rfl rfl (Nat.le_of_ble_eq_true rfl) ?_
  intro pg ev s m below meth c hx hb hr hts hown hlocks hml htab hH hC ls hl
  subst hH
  have hLo := va_freeB hB0 hC.2.2.2.1
  have hD := hB0.self (sz := s.heap.size)
  have hS : va_S (va_A (xW G a v mo ki pr df co bi g9 lr bf tn ln nx ct hv v0 k0 v1 k1 ++ [(oa, .inl (cL G, 1, .inr (.inl of)))]) s.heap.size) s.heap s.heap [] := va_S.rf
  unfold qMi
  generalize hAe : va_A (xW G a v mo ki pr df co bi g9 lr bf tn ln nx ct hv v0 k0 v1 k1 ++ [(oa, .inl (cL G, 1, .inr (.inl of)))]) s.heap.size = A at hD hLo hS ⊢
  have hA : ∀ q, s.heap.size ≤ q → A q := fun q h => by rw [← hAe]; exact Or.inr h
  generalize ([] : List Loc) = locs at hS ⊢
  have hP := hP0
  refine lv_aload_n hx hb dL_bestMove_0 rfl (lv_at hl 2 rfl) ?_
  refine lv_iconst (v := nI (0)) hx hb dL_bestMove_1 (by decide) ?_
  refine lv_aload_n hx hb dL_bestMove_2 rfl (lv_at hl 0 rfl) ?_
  refine lv_iload_n hx hb dL_bestMove_3 rfl (lv_at hl 1 rfl) ?_
  refine kPi (va_runV (As := [.int (nI (b))]) (rest := [.int (nI (0)), .ref oa]) ⟨hx, hb, hml, hown, hts⟩ (c_X8_bestMove a v b (by first | assumption | omega) (by first | assumption | omega) (by first | assumption | omega) (xW_now (pre_P hP))) (cwV 1 hts gL_bestMove_X8_bestMove rfl rfl rfl (by decide +kernel) ⟨Nat.le_of_ble_eq_true rfl, Nat.le_of_ble_eq_true rfl⟩) (preV hC hS hLo hP (ci := 7) (q0 := 0) rfl rfl) rfl rfl hl.1 rfl (lv_room (Nat.le_of_ble_eq_true rfl)) dL_bestMove_4 ⟨Nat.zero_le _, Nat.zero_le _⟩) hS (fun locs hS => ?_)
  refine lv_i2l (v := (nI (BEST v.1 v.2.1 b)).toInt64) hx hb dL_bestMove_7 (rfl) ?_
  refine gOut hx hb hC.K hP hD hS dL_bestMove_8 (fun H locs hP hD hS => ?_)
  have hP : PP G (xW G a v mo ki pr df co bi g9 lr bf tn ln nx ct hv v0 k0 v1 k1 ++ [(oa, .inl (cL G, 1, .inr (.inl (vp_updL of 0 ((nI (BEST v.1 v.2.1 b)).toInt64)))))]) H := hP
  have hD : va_D A (xW G a v mo ki pr df co bi g9 lr bf tn ln nx ct hv v0 k0 v1 k1 ++ [(oa, .inl (cL G, 1, .inr (.inl (vp_updL of 0 ((nI (BEST v.1 v.2.1 b)).toInt64)))))]) := hD
  refine lv_goto (tgt := 15) hx hb dL_bestMove_9 (by decide) ?_
  refine lv_iconst (v := nI (0)) hx hb dL_bestMove_15 (by decide) ?_
  exact xMi (G := G) (post := (fun (r : Int32) (u : Unit) => r = nI 0)) (w1 := (fun (u : Unit) => xW G a v mo ki pr df co bi g9 lr bf tn ln nx ct hv v0 k0 v1 k1 ++ [(oa, .inl (cL G, 1, .inr (.inl (vp_updL of 0 ((nI (BEST v.1 v.2.1 b)).toInt64)))))])) (()) hx hb hr hlocks hP hS (by exact rfl) (by exact rfl) dL_bestMove_16

set_option maxHeartbeats 4000000 in
set_option maxRecDepth 100000 in
theorem c_L_bestMoveByStopping {l : Launch} {G : GT} {H0 : Heap} (a : Nat → Nat) (v : SVT) (mo ki : Nat → Nat) (pr df : Nat → Int) (co : Int32) (bi : Nat) (g9 : Nat → Int32) (lr : Nat) (bf : Nat → Int) (tn : Nat → Nat) (ln nx ct : Nat) (hv : Nat → SVT) (v0 : SVT) (k0 : Nat) (v1 : SVT) (k1 : Nat) (oa : Nat) (of : Nat → Int64) (b : Nat) (hd : R15 v.1) (ht : R15 v.2.1) (hb4 : b < 4) (hP0 : PP G (xW G a v mo ki pr df co bi g9 lr bf tn ln nx ct hv v0 k0 v1 k1 ++ [(oa, .inl (cL G, 1, .inr (.inl of)))]) H0) (hB0 : va_D (lo G) (xW G a v mo ki pr df co bi g9 lr bf tn ln nx ct hv v0 k0 v1 k1 ++ [(oa, .inl (cL G, 1, .inr (.inl of)))])) : Met l yL_bestMoveByStopping wsL_bestMoveByStopping ({ frames := 4, cells := 0, slots := 0, locals := 101 } : Room) (pcG G [.ref (a 0), .int (nI (b)), .ref oa] H0) (qMi G (fun (r : Int32) (u : Unit) => r = nI 0) (fun (u : Unit) => xW G a v mo ki pr df co bi g9 lr bf tn ln nx ct hv v0 k0 v1 k1 ++ [(oa, .inl (cL G, 1, .inr (.inl (vp_updL of 0 ((nI ((bsS v.1 v.2.1 b 25).1)).toInt64)))))]) (xW G a v mo ki pr df co bi g9 lr bf tn ln nx ct hv v0 k0 v1 k1 ++ [(oa, .inl (cL G, 1, .inr (.inl of)))]) H0) 0 0 (va_A (xW G a v mo ki pr df co bi g9 lr bf tn ln nx ct hv v0 k0 v1 k1 ++ [(oa, .inl (cL G, 1, .inr (.inl of)))]) H0.size) := by
  refine enterH (cc := cL_bestMoveByStopping) (maxL := 4) (ret := some .int) (own := RL) (lv := [(0, .ref (a 0)), (1, .int (nI (b))), (2, .ref oa)]) (by decide) rfl rfl rfl (Nat.le_of_ble_eq_true rfl) ?_
  intro pg ev s m below meth c hx hb hr hts hown hlocks hml htab hH hC ls hl
  subst hH
  have hLo := va_freeB hB0 hC.2.2.2.1
  have hD := hB0.self (sz := s.heap.size)
  have hS : va_S (va_A (xW G a v mo ki pr df co bi g9 lr bf tn ln nx ct hv v0 k0 v1 k1 ++ [(oa, .inl (cL G, 1, .inr (.inl of)))]) s.heap.size) s.heap s.heap [] := va_S.rf
  unfold qMi
  generalize hAe : va_A (xW G a v mo ki pr df co bi g9 lr bf tn ln nx ct hv v0 k0 v1 k1 ++ [(oa, .inl (cL G, 1, .inr (.inl of)))]) s.heap.size = A at hD hLo hS ⊢
  have hA : ∀ q, s.heap.size ≤ q → A q := fun q h => by rw [← hAe]; exact Or.inr h
  generalize ([] : List Loc) = locs at hS ⊢
  have hP := hP0
  refine lv_aload_n hx hb dL_bestMoveByStopping_0 rfl (lv_at hl 2 rfl) ?_
  refine lv_iconst (v := nI (0)) hx hb dL_bestMoveByStopping_1 (by decide) ?_
  refine lv_aload_n hx hb dL_bestMoveByStopping_2 rfl (lv_at hl 0 rfl) ?_
  refine lv_iload_n hx hb dL_bestMoveByStopping_3 rfl (lv_at hl 1 rfl) ?_
  refine kPi (va_runV (As := [.int (nI (b))]) (rest := [.int (nI (0)), .ref oa]) ⟨hx, hb, hml, hown, hts⟩ (c_X8_bestMoveByStopping a v b (by first | assumption | omega) (by first | assumption | omega) (by first | assumption | omega) (xW_now (pre_P hP))) (cwV 1 hts gL_bestMoveByStopping_X8_bestMoveByStopping rfl rfl rfl (by decide +kernel) ⟨Nat.le_of_ble_eq_true rfl, Nat.le_of_ble_eq_true rfl⟩) (preV hC hS hLo hP (ci := 7) (q0 := 0) rfl rfl) rfl rfl hl.1 rfl (lv_room (Nat.le_of_ble_eq_true rfl)) dL_bestMoveByStopping_4 ⟨Nat.zero_le _, Nat.zero_le _⟩) hS (fun locs hS => ?_)
  refine lv_i2l (v := (nI ((bsS v.1 v.2.1 b 25).1)).toInt64) hx hb dL_bestMoveByStopping_7 (rfl) ?_
  refine gOut hx hb hC.K hP hD hS dL_bestMoveByStopping_8 (fun H locs hP hD hS => ?_)
  have hP : PP G (xW G a v mo ki pr df co bi g9 lr bf tn ln nx ct hv v0 k0 v1 k1 ++ [(oa, .inl (cL G, 1, .inr (.inl (vp_updL of 0 ((nI ((bsS v.1 v.2.1 b 25).1)).toInt64)))))]) H := hP
  have hD : va_D A (xW G a v mo ki pr df co bi g9 lr bf tn ln nx ct hv v0 k0 v1 k1 ++ [(oa, .inl (cL G, 1, .inr (.inl (vp_updL of 0 ((nI ((bsS v.1 v.2.1 b 25).1)).toInt64)))))]) := hD
  refine lv_goto (tgt := 15) hx hb dL_bestMoveByStopping_9 (by decide) ?_
  refine lv_iconst (v := nI (0)) hx hb dL_bestMoveByStopping_15 (by decide) ?_
  exact xMi (G := G) (post := (fun (r : Int32) (u : Unit) => r = nI 0)) (w1 := (fun (u : Unit) => xW G a v mo ki pr df co bi g9 lr bf tn ln nx ct hv v0 k0 v1 k1 ++ [(oa, .inl (cL G, 1, .inr (.inl (vp_updL of 0 ((nI ((bsS v.1 v.2.1 b 25).1)).toInt64)))))])) (()) hx hb hr hlocks hP hS (by exact rfl) (by exact rfl) dL_bestMoveByStopping_16

set_option maxHeartbeats 4000000 in
set_option maxRecDepth 100000 in
theorem c_L_equalMoves {l : Launch} {G : GT} {H0 : Heap} (a : Nat → Nat) (v : SVT) (mo ki : Nat → Nat) (pr df : Nat → Int) (co : Int32) (bi : Nat) (g9 : Nat → Int32) (lr : Nat) (bf : Nat → Int) (tn : Nat → Nat) (ln nx ct : Nat) (hv : Nat → SVT) (v0 : SVT) (k0 : Nat) (v1 : SVT) (k1 : Nat) (oa : Nat) (of : Nat → Int64) (b : Nat) (hd : R15 v.1) (ht : R15 v.2.1) (hb4 : b < 4) (hP0 : PP G (xW G a v mo ki pr df co bi g9 lr bf tn ln nx ct hv v0 k0 v1 k1 ++ [(oa, .inl (cL G, 1, .inr (.inl of)))]) H0) (hB0 : va_D (lo G) (xW G a v mo ki pr df co bi g9 lr bf tn ln nx ct hv v0 k0 v1 k1 ++ [(oa, .inl (cL G, 1, .inr (.inl of)))])) : Met l yL_equalMoves wsL_equalMoves ({ frames := 4, cells := 0, slots := 0, locals := 98 } : Room) (pcG G [.ref (a 0), .int (nI (b)), .ref oa] H0) (qMi G (fun (r : Int32) (u : Unit) => r = nI 0) (fun (u : Unit) => xW G a v mo ki pr df co bi g9 lr bf tn ln nx ct hv v0 k0 v1 k1 ++ [(oa, .inl (cL G, 1, .inr (.inl (vp_updL of 0 ((nI ((cnt (DIST v.1 v.2.1 b) 25).1)).toInt64)))))]) (xW G a v mo ki pr df co bi g9 lr bf tn ln nx ct hv v0 k0 v1 k1 ++ [(oa, .inl (cL G, 1, .inr (.inl of)))]) H0) 0 0 (va_A (xW G a v mo ki pr df co bi g9 lr bf tn ln nx ct hv v0 k0 v1 k1 ++ [(oa, .inl (cL G, 1, .inr (.inl of)))]) H0.size) := by
  refine enterH (cc := cL_equalMoves) (maxL := 4) (ret := some .int) (own := RL) (lv := [(0, .ref (a 0)), (1, .int (nI (b))), (2, .ref oa)]) (by decide) rfl rfl rfl (Nat.le_of_ble_eq_true rfl) ?_
  intro pg ev s m below meth c hx hb hr hts hown hlocks hml htab hH hC ls hl
  subst hH
  have hLo := va_freeB hB0 hC.2.2.2.1
  have hD := hB0.self (sz := s.heap.size)
  have hS : va_S (va_A (xW G a v mo ki pr df co bi g9 lr bf tn ln nx ct hv v0 k0 v1 k1 ++ [(oa, .inl (cL G, 1, .inr (.inl of)))]) s.heap.size) s.heap s.heap [] := va_S.rf
  unfold qMi
  generalize hAe : va_A (xW G a v mo ki pr df co bi g9 lr bf tn ln nx ct hv v0 k0 v1 k1 ++ [(oa, .inl (cL G, 1, .inr (.inl of)))]) s.heap.size = A at hD hLo hS ⊢
  have hA : ∀ q, s.heap.size ≤ q → A q := fun q h => by rw [← hAe]; exact Or.inr h
  generalize ([] : List Loc) = locs at hS ⊢
  have hP := hP0
  refine lv_aload_n hx hb dL_equalMoves_0 rfl (lv_at hl 2 rfl) ?_
  refine lv_iconst (v := nI (0)) hx hb dL_equalMoves_1 (by decide) ?_
  refine lv_aload_n hx hb dL_equalMoves_2 rfl (lv_at hl 0 rfl) ?_
  refine lv_iload_n hx hb dL_equalMoves_3 rfl (lv_at hl 1 rfl) ?_
  refine kPi (va_runV (As := [.int (nI (b))]) (rest := [.int (nI (0)), .ref oa]) ⟨hx, hb, hml, hown, hts⟩ (c_X8_equalMoves a v b (by first | assumption | omega) (by first | assumption | omega) (by first | assumption | omega) (xW_now (pre_P hP))) (cwV 1 hts gL_equalMoves_X8_equalMoves rfl rfl rfl (by decide +kernel) ⟨Nat.le_of_ble_eq_true rfl, Nat.le_of_ble_eq_true rfl⟩) (preV hC hS hLo hP (ci := 7) (q0 := 0) rfl rfl) rfl rfl hl.1 rfl (lv_room (Nat.le_of_ble_eq_true rfl)) dL_equalMoves_4 ⟨Nat.zero_le _, Nat.zero_le _⟩) hS (fun locs hS => ?_)
  refine lv_i2l (v := (nI ((cnt (DIST v.1 v.2.1 b) 25).1)).toInt64) hx hb dL_equalMoves_7 (rfl) ?_
  refine gOut hx hb hC.K hP hD hS dL_equalMoves_8 (fun H locs hP hD hS => ?_)
  have hP : PP G (xW G a v mo ki pr df co bi g9 lr bf tn ln nx ct hv v0 k0 v1 k1 ++ [(oa, .inl (cL G, 1, .inr (.inl (vp_updL of 0 ((nI ((cnt (DIST v.1 v.2.1 b) 25).1)).toInt64)))))]) H := hP
  have hD : va_D A (xW G a v mo ki pr df co bi g9 lr bf tn ln nx ct hv v0 k0 v1 k1 ++ [(oa, .inl (cL G, 1, .inr (.inl (vp_updL of 0 ((nI ((cnt (DIST v.1 v.2.1 b) 25).1)).toInt64)))))]) := hD
  refine lv_goto (tgt := 15) hx hb dL_equalMoves_9 (by decide) ?_
  refine lv_iconst (v := nI (0)) hx hb dL_equalMoves_15 (by decide) ?_
  exact xMi (G := G) (post := (fun (r : Int32) (u : Unit) => r = nI 0)) (w1 := (fun (u : Unit) => xW G a v mo ki pr df co bi g9 lr bf tn ln nx ct hv v0 k0 v1 k1 ++ [(oa, .inl (cL G, 1, .inr (.inl (vp_updL of 0 ((nI ((cnt (DIST v.1 v.2.1 b) 25).1)).toInt64)))))])) (()) hx hb hr hlocks hP hS (by exact rfl) (by exact rfl) dL_equalMoves_16

set_option maxHeartbeats 4000000 in
set_option maxRecDepth 100000 in
theorem c_L_kindWith {l : Launch} {G : GT} {H0 : Heap} (a : Nat → Nat) (v : SVT) (mo ki : Nat → Nat) (pr df : Nat → Int) (co : Int32) (bi : Nat) (g9 : Nat → Int32) (lr : Nat) (bf : Nat → Int) (tn : Nat → Nat) (ln nx ct : Nat) (hv : Nat → SVT) (v0 : SVT) (k0 : Nat) (v1 : SVT) (k1 : Nat) (oa : Nat) (of : Nat → Int64) (b q : Nat) (hd : R15 v.1) (ht : R15 v.2.1) (hdf : D15 df) (hmo : M25 mo) (hb4 : b < 4) (hq : 1 ≤ q ∧ q ≤ 8) (hP0 : PP G (xW G a v mo ki pr df co bi g9 lr bf tn ln nx ct hv v0 k0 v1 k1 ++ [(oa, .inl (cL G, 1, .inr (.inl of)))]) H0) (hB0 : va_D (lo G) (xW G a v mo ki pr df co bi g9 lr bf tn ln nx ct hv v0 k0 v1 k1 ++ [(oa, .inl (cL G, 1, .inr (.inl of)))])) : Met l yL_kindWith wsL_kindWith ({ frames := 4, cells := 0, slots := 0, locals := 99 } : Room) (pcG G [.ref (a 0), .int (nI (b)), .int (nI (q)), .ref oa] H0) (qMi G (fun (r : Int32) (u : Unit) => r = nI 0) (fun (u : Unit) => xW G a v (va_up mo b (BEST v.1 v.2.1 b)) (va_up ki b (kdW ((va_up mo b (BEST v.1 v.2.1 b)) b) (LB (fdS v.1 v.2.1 b (BEST v.1 v.2.1 b) df 16) b q 16))) (fpS v.2.1 b (BEST v.1 v.2.1 b) pr 16) (fdS v.1 v.2.1 b (BEST v.1 v.2.1 b) df 16) co bi g9 lr bf tn ln nx ct hv v0 k0 v1 k1 ++ [(oa, .inl (cL G, 1, .inr (.inl (vp_updL of 0 ((nI (KDM v.1 v.2.1 b q)).toInt64)))))]) (xW G a v mo ki pr df co bi g9 lr bf tn ln nx ct hv v0 k0 v1 k1 ++ [(oa, .inl (cL G, 1, .inr (.inl of)))]) H0) 0 0 (va_A (xW G a v mo ki pr df co bi g9 lr bf tn ln nx ct hv v0 k0 v1 k1 ++ [(oa, .inl (cL G, 1, .inr (.inl of)))]) H0.size) := by
  refine enterH (cc := cL_kindWith) (maxL := 5) (ret := some .int) (own := RL) (lv := [(0, .ref (a 0)), (1, .int (nI (b))), (2, .int (nI (q))), (3, .ref oa)]) (by decide) rfl rfl rfl (Nat.le_of_ble_eq_true rfl) ?_
  intro pg ev s m below meth c hx hb hr hts hown hlocks hml htab hH hC ls hl
  subst hH
  have hLo := va_freeB hB0 hC.2.2.2.1
  have hD := hB0.self (sz := s.heap.size)
  have hS : va_S (va_A (xW G a v mo ki pr df co bi g9 lr bf tn ln nx ct hv v0 k0 v1 k1 ++ [(oa, .inl (cL G, 1, .inr (.inl of)))]) s.heap.size) s.heap s.heap [] := va_S.rf
  unfold qMi
  generalize hAe : va_A (xW G a v mo ki pr df co bi g9 lr bf tn ln nx ct hv v0 k0 v1 k1 ++ [(oa, .inl (cL G, 1, .inr (.inl of)))]) s.heap.size = A at hD hLo hS ⊢
  have hA : ∀ q, s.heap.size ≤ q → A q := fun q h => by rw [← hAe]; exact Or.inr h
  generalize ([] : List Loc) = locs at hS ⊢
  have hP := hP0
  refine lv_aload_n hx hb dL_kindWith_0 rfl (lv_at hl 3 rfl) ?_
  refine lv_iconst (v := nI (0)) hx hb dL_kindWith_1 (by decide) ?_
  refine lv_aload_n hx hb dL_kindWith_2 rfl (lv_at hl 0 rfl) ?_
  refine lv_iload_n hx hb dL_kindWith_3 rfl (lv_at hl 1 rfl) ?_
  refine lv_iload_n hx hb dL_kindWith_4 rfl (lv_at hl 2 rfl) ?_
  rw [xW_y3, List.append_assoc] at hP hD
  refine kPreI (va_runV (As := [.int (nI (b)), .int (nI (q))]) (rest := [.int (nI (0)), .ref oa]) ⟨hx, hb, hml, hown, hts⟩ (c_X8_kindWith a v mo ki pr df co bi g9 lr bf tn ln b q (by first | assumption | omega) (by first | assumption | omega) (by first | assumption | omega) (by first | assumption | omega) (by first | assumption | omega) (by first | assumption | omega) (pre_P hP) ((pre_D hD).weaken (fun _ _ _ h => hLo _ h))) (cwV 2 hts gL_kindWith_X8_kindWith rfl rfl rfl (by decide +kernel) ⟨Nat.le_of_ble_eq_true rfl, Nat.le_of_ble_eq_true rfl⟩) (preV hC hS hLo hP (ci := 7) (q0 := 0) rfl rfl) rfl rfl hl.1 rfl (lv_room (Nat.le_of_ble_eq_true rfl)) dL_kindWith_5 ⟨Nat.zero_le _, Nat.zero_le _⟩) hP hD hS hA (fun _ => rfl) (fun r_3 u_1 H locs q_2 hP hD hS => ?_)
  have hP : PP G (xW G a v (va_up mo b (BEST v.1 v.2.1 b)) (va_up ki b (kdW ((va_up mo b (BEST v.1 v.2.1 b)) b) (LB (fdS v.1 v.2.1 b (BEST v.1 v.2.1 b) df 16) b q 16))) (fpS v.2.1 b (BEST v.1 v.2.1 b) pr 16) (fdS v.1 v.2.1 b (BEST v.1 v.2.1 b) df 16) co bi g9 lr bf tn ln nx ct hv v0 k0 v1 k1 ++ [(oa, .inl (cL G, 1, .inr (.inl of)))]) H := by rw [xW_y3, List.append_assoc]; exact hP
  have hD : va_D A (xW G a v (va_up mo b (BEST v.1 v.2.1 b)) (va_up ki b (kdW ((va_up mo b (BEST v.1 v.2.1 b)) b) (LB (fdS v.1 v.2.1 b (BEST v.1 v.2.1 b) df 16) b q 16))) (fpS v.2.1 b (BEST v.1 v.2.1 b) pr 16) (fdS v.1 v.2.1 b (BEST v.1 v.2.1 b) df 16) co bi g9 lr bf tn ln nx ct hv v0 k0 v1 k1 ++ [(oa, .inl (cL G, 1, .inr (.inl of)))]) := by rw [xW_y3, List.append_assoc]; exact hD
  refine topE (v' := nI (KDM v.1 v.2.1 b q)) (q_2) ?_
  refine lv_i2l (v := (nI (KDM v.1 v.2.1 b q)).toInt64) hx hb dL_kindWith_8 (rfl) ?_
  refine gOut hx hb hC.K hP hD hS dL_kindWith_9 (fun H locs hP hD hS => ?_)
  have hP : PP G (xW G a v (va_up mo b (BEST v.1 v.2.1 b)) (va_up ki b (kdW ((va_up mo b (BEST v.1 v.2.1 b)) b) (LB (fdS v.1 v.2.1 b (BEST v.1 v.2.1 b) df 16) b q 16))) (fpS v.2.1 b (BEST v.1 v.2.1 b) pr 16) (fdS v.1 v.2.1 b (BEST v.1 v.2.1 b) df 16) co bi g9 lr bf tn ln nx ct hv v0 k0 v1 k1 ++ [(oa, .inl (cL G, 1, .inr (.inl (vp_updL of 0 ((nI (KDM v.1 v.2.1 b q)).toInt64)))))]) H := hP
  have hD : va_D A (xW G a v (va_up mo b (BEST v.1 v.2.1 b)) (va_up ki b (kdW ((va_up mo b (BEST v.1 v.2.1 b)) b) (LB (fdS v.1 v.2.1 b (BEST v.1 v.2.1 b) df 16) b q 16))) (fpS v.2.1 b (BEST v.1 v.2.1 b) pr 16) (fdS v.1 v.2.1 b (BEST v.1 v.2.1 b) df 16) co bi g9 lr bf tn ln nx ct hv v0 k0 v1 k1 ++ [(oa, .inl (cL G, 1, .inr (.inl (vp_updL of 0 ((nI (KDM v.1 v.2.1 b q)).toInt64)))))]) := hD
  refine lv_goto (tgt := 21) hx hb dL_kindWith_10 (by decide) ?_
  refine lv_iconst (v := nI (0)) hx hb dL_kindWith_21 (by decide) ?_
  exact xMi (G := G) (post := (fun (r : Int32) (u : Unit) => r = nI 0)) (w1 := (fun (u : Unit) => xW G a v (va_up mo b (BEST v.1 v.2.1 b)) (va_up ki b (kdW ((va_up mo b (BEST v.1 v.2.1 b)) b) (LB (fdS v.1 v.2.1 b (BEST v.1 v.2.1 b) df 16) b q 16))) (fpS v.2.1 b (BEST v.1 v.2.1 b) pr 16) (fdS v.1 v.2.1 b (BEST v.1 v.2.1 b) df 16) co bi g9 lr bf tn ln nx ct hv v0 k0 v1 k1 ++ [(oa, .inl (cL G, 1, .inr (.inl (vp_updL of 0 ((nI (KDM v.1 v.2.1 b q)).toInt64)))))])) (()) hx hb hr hlocks hP hS (by exact rfl) (by exact rfl) dL_kindWith_22

set_option maxHeartbeats 4000000 in
set_option maxRecDepth 100000 in
theorem c_L_bitsWith {l : Launch} {G : GT} {H0 : Heap} (a : Nat → Nat) (v : SVT) (mo ki : Nat → Nat) (pr df : Nat → Int) (co : Int32) (bi : Nat) (g9 : Nat → Int32) (lr : Nat) (bf : Nat → Int) (tn : Nat → Nat) (ln nx ct : Nat) (hv : Nat → SVT) (v0 : SVT) (k0 : Nat) (v1 : SVT) (k1 : Nat) (oa : Nat) (of : Nat → Int64) (b q : Nat) (hd : R15 v.1) (ht : R15 v.2.1) (hdf : D15 df) (hmo : M25 mo) (hb4 : b < 4) (hq : 1 ≤ q ∧ q ≤ 8) (hP0 : PP G (xW G a v mo ki pr df co bi g9 lr bf tn ln nx ct hv v0 k0 v1 k1 ++ [(oa, .inl (cL G, 1, .inr (.inl of)))]) H0) (hB0 : va_D (lo G) (xW G a v mo ki pr df co bi g9 lr bf tn ln nx ct hv v0 k0 v1 k1 ++ [(oa, .inl (cL G, 1, .inr (.inl of)))])) : Met l yL_bitsWith wsL_bitsWith ({ frames := 4, cells := 0, slots := 0, locals := 99 } : Room) (pcG G [.ref (a 0), .int (nI (b)), .int (nI (q)), .ref oa] H0) (qMi G (fun (r : Int32) (u : Unit) => r = nI 0) (fun (u : Unit) => xW G a v (va_up mo b (BEST v.1 v.2.1 b)) (va_up ki b (kdW ((va_up mo b (BEST v.1 v.2.1 b)) b) (LB (fdS v.1 v.2.1 b (BEST v.1 v.2.1 b) df 16) b q 16))) (fpS v.2.1 b (BEST v.1 v.2.1 b) pr 16) (fdS v.1 v.2.1 b (BEST v.1 v.2.1 b) df 16) co bi g9 lr bf tn ln nx ct hv v0 k0 v1 k1 ++ [(oa, .inl (cL G, 1, .inr (.inl (vp_updL of 0 ((nI (BTM v.1 v.2.1 b q)).toInt64)))))]) (xW G a v mo ki pr df co bi g9 lr bf tn ln nx ct hv v0 k0 v1 k1 ++ [(oa, .inl (cL G, 1, .inr (.inl of)))]) H0) 0 0 (va_A (xW G a v mo ki pr df co bi g9 lr bf tn ln nx ct hv v0 k0 v1 k1 ++ [(oa, .inl (cL G, 1, .inr (.inl of)))]) H0.size) := by
  refine enterH (cc := cL_bitsWith) (maxL := 5) (ret := some .int) (own := RL) (lv := [(0, .ref (a 0)), (1, .int (nI (b))), (2, .int (nI (q))), (3, .ref oa)]) (by decide) rfl rfl rfl (Nat.le_of_ble_eq_true rfl) ?_
  intro pg ev s m below meth c hx hb hr hts hown hlocks hml htab hH hC ls hl
  subst hH
  have hLo := va_freeB hB0 hC.2.2.2.1
  have hD := hB0.self (sz := s.heap.size)
  have hS : va_S (va_A (xW G a v mo ki pr df co bi g9 lr bf tn ln nx ct hv v0 k0 v1 k1 ++ [(oa, .inl (cL G, 1, .inr (.inl of)))]) s.heap.size) s.heap s.heap [] := va_S.rf
  unfold qMi
  generalize hAe : va_A (xW G a v mo ki pr df co bi g9 lr bf tn ln nx ct hv v0 k0 v1 k1 ++ [(oa, .inl (cL G, 1, .inr (.inl of)))]) s.heap.size = A at hD hLo hS ⊢
  have hA : ∀ q, s.heap.size ≤ q → A q := fun q h => by rw [← hAe]; exact Or.inr h
  generalize ([] : List Loc) = locs at hS ⊢
  have hP := hP0
  refine lv_aload_n hx hb dL_bitsWith_0 rfl (lv_at hl 3 rfl) ?_
  refine lv_iconst (v := nI (0)) hx hb dL_bitsWith_1 (by decide) ?_
  refine lv_aload_n hx hb dL_bitsWith_2 rfl (lv_at hl 0 rfl) ?_
  refine lv_iload_n hx hb dL_bitsWith_3 rfl (lv_at hl 1 rfl) ?_
  refine lv_iload_n hx hb dL_bitsWith_4 rfl (lv_at hl 2 rfl) ?_
  rw [xW_y3, List.append_assoc] at hP hD
  refine kPreI (va_runV (As := [.int (nI (b)), .int (nI (q))]) (rest := [.int (nI (0)), .ref oa]) ⟨hx, hb, hml, hown, hts⟩ (c_X8_bitsWith a v mo ki pr df co bi g9 lr bf tn ln b q (by first | assumption | omega) (by first | assumption | omega) (by first | assumption | omega) (by first | assumption | omega) (by first | assumption | omega) (by first | assumption | omega) (pre_P hP) ((pre_D hD).weaken (fun _ _ _ h => hLo _ h))) (cwV 2 hts gL_bitsWith_X8_bitsWith rfl rfl rfl (by decide +kernel) ⟨Nat.le_of_ble_eq_true rfl, Nat.le_of_ble_eq_true rfl⟩) (preV hC hS hLo hP (ci := 7) (q0 := 0) rfl rfl) rfl rfl hl.1 rfl (lv_room (Nat.le_of_ble_eq_true rfl)) dL_bitsWith_5 ⟨Nat.zero_le _, Nat.zero_le _⟩) hP hD hS hA (fun _ => rfl) (fun r_3 u_1 H locs q_2 hP hD hS => ?_)
  have hP : PP G (xW G a v (va_up mo b (BEST v.1 v.2.1 b)) (va_up ki b (kdW ((va_up mo b (BEST v.1 v.2.1 b)) b) (LB (fdS v.1 v.2.1 b (BEST v.1 v.2.1 b) df 16) b q 16))) (fpS v.2.1 b (BEST v.1 v.2.1 b) pr 16) (fdS v.1 v.2.1 b (BEST v.1 v.2.1 b) df 16) co bi g9 lr bf tn ln nx ct hv v0 k0 v1 k1 ++ [(oa, .inl (cL G, 1, .inr (.inl of)))]) H := by rw [xW_y3, List.append_assoc]; exact hP
  have hD : va_D A (xW G a v (va_up mo b (BEST v.1 v.2.1 b)) (va_up ki b (kdW ((va_up mo b (BEST v.1 v.2.1 b)) b) (LB (fdS v.1 v.2.1 b (BEST v.1 v.2.1 b) df 16) b q 16))) (fpS v.2.1 b (BEST v.1 v.2.1 b) pr 16) (fdS v.1 v.2.1 b (BEST v.1 v.2.1 b) df 16) co bi g9 lr bf tn ln nx ct hv v0 k0 v1 k1 ++ [(oa, .inl (cL G, 1, .inr (.inl of)))]) := by rw [xW_y3, List.append_assoc]; exact hD
  refine topE (v' := nI (BTM v.1 v.2.1 b q)) (q_2) ?_
  refine lv_i2l (v := (nI (BTM v.1 v.2.1 b q)).toInt64) hx hb dL_bitsWith_8 (rfl) ?_
  refine gOut hx hb hC.K hP hD hS dL_bitsWith_9 (fun H locs hP hD hS => ?_)
  have hP : PP G (xW G a v (va_up mo b (BEST v.1 v.2.1 b)) (va_up ki b (kdW ((va_up mo b (BEST v.1 v.2.1 b)) b) (LB (fdS v.1 v.2.1 b (BEST v.1 v.2.1 b) df 16) b q 16))) (fpS v.2.1 b (BEST v.1 v.2.1 b) pr 16) (fdS v.1 v.2.1 b (BEST v.1 v.2.1 b) df 16) co bi g9 lr bf tn ln nx ct hv v0 k0 v1 k1 ++ [(oa, .inl (cL G, 1, .inr (.inl (vp_updL of 0 ((nI (BTM v.1 v.2.1 b q)).toInt64)))))]) H := hP
  have hD : va_D A (xW G a v (va_up mo b (BEST v.1 v.2.1 b)) (va_up ki b (kdW ((va_up mo b (BEST v.1 v.2.1 b)) b) (LB (fdS v.1 v.2.1 b (BEST v.1 v.2.1 b) df 16) b q 16))) (fpS v.2.1 b (BEST v.1 v.2.1 b) pr 16) (fdS v.1 v.2.1 b (BEST v.1 v.2.1 b) df 16) co bi g9 lr bf tn ln nx ct hv v0 k0 v1 k1 ++ [(oa, .inl (cL G, 1, .inr (.inl (vp_updL of 0 ((nI (BTM v.1 v.2.1 b q)).toInt64)))))]) := hD
  refine lv_goto (tgt := 21) hx hb dL_bitsWith_10 (by decide) ?_
  refine lv_iconst (v := nI (0)) hx hb dL_bitsWith_21 (by decide) ?_
  exact xMi (G := G) (post := (fun (r : Int32) (u : Unit) => r = nI 0)) (w1 := (fun (u : Unit) => xW G a v (va_up mo b (BEST v.1 v.2.1 b)) (va_up ki b (kdW ((va_up mo b (BEST v.1 v.2.1 b)) b) (LB (fdS v.1 v.2.1 b (BEST v.1 v.2.1 b) df 16) b q 16))) (fpS v.2.1 b (BEST v.1 v.2.1 b) pr 16) (fdS v.1 v.2.1 b (BEST v.1 v.2.1 b) df 16) co bi g9 lr bf tn ln nx ct hv v0 k0 v1 k1 ++ [(oa, .inl (cL G, 1, .inr (.inl (vp_updL of 0 ((nI (BTM v.1 v.2.1 b q)).toInt64)))))])) (()) hx hb hr hlocks hP hS (by exact rfl) (by exact rfl) dL_bitsWith_22

set_option maxHeartbeats 4000000 in
set_option maxRecDepth 100000 in
theorem c_L_bitsByWriting {l : Launch} {G : GT} {H0 : Heap} (a : Nat → Nat) (v : SVT) (mo ki : Nat → Nat) (pr df : Nat → Int) (co : Int32) (bi : Nat) (g9 : Nat → Int32) (lr : Nat) (bf : Nat → Int) (tn : Nat → Nat) (ln nx ct : Nat) (hv : Nat → SVT) (v0 : SVT) (k0 : Nat) (v1 : SVT) (k1 : Nat) (oa : Nat) (of : Nat → Int64) (b q : Nat) (hd : R15 v.1) (ht : R15 v.2.1) (hdf : D15 df) (hmo : M25 mo) (hb4 : b < 4) (hq : 1 ≤ q ∧ q ≤ 8) (hP0 : PP G (xW G a v mo ki pr df co bi g9 lr bf tn ln nx ct hv v0 k0 v1 k1 ++ [(oa, .inl (cL G, 1, .inr (.inl of)))]) H0) (hB0 : va_D (lo G) (xW G a v mo ki pr df co bi g9 lr bf tn ln nx ct hv v0 k0 v1 k1 ++ [(oa, .inl (cL G, 1, .inr (.inl of)))])) : Met l yL_bitsByWriting wsL_bitsByWriting ({ frames := 5, cells := 0, slots := 0, locals := 117 } : Room) (pcG G [.ref (a 0), .int (nI (b)), .int (nI (q)), .ref oa] H0) (qMi G (fun (r : Int32) (u : (Nat → Int32) × Nat) => r = nI 0) (fun (u : (Nat → Int32) × Nat) => xW G a v (va_up mo b (BEST v.1 v.2.1 b)) ki (fpS v.2.1 b (BEST v.1 v.2.1 b) pr 16) (fdS v.1 v.2.1 b (BEST v.1 v.2.1 b) df 16) co bi u.1 u.2 bf tn ln nx ct hv v0 k0 v1 k1 ++ [(oa, .inl (cL G, 1, .inr (.inl (vp_updL of 0 ((nI (BTM v.1 v.2.1 b q)).toInt64)))))]) (xW G a v mo ki pr df co bi g9 lr bf tn ln nx ct hv v0 k0 v1 k1 ++ [(oa, .inl (cL G, 1, .inr (.inl of)))]) H0) 0 0 (va_A (xW G a v mo ki pr df co bi g9 lr bf tn ln nx ct hv v0 k0 v1 k1 ++ [(oa, .inl (cL G, 1, .inr (.inl of)))]) H0.size) := by
  refine enterH (cc := cL_bitsByWriting) (maxL := 5) (ret := some .int) (own := RL) (lv := [(0, .ref (a 0)), (1, .int (nI (b))), (2, .int (nI (q))), (3, .ref oa)]) (by decide) rfl rfl rfl (Nat.le_of_ble_eq_true rfl) ?_
  intro pg ev s m below meth c hx hb hr hts hown hlocks hml htab hH hC ls hl
  subst hH
  have hLo := va_freeB hB0 hC.2.2.2.1
  have hD := hB0.self (sz := s.heap.size)
  have hS : va_S (va_A (xW G a v mo ki pr df co bi g9 lr bf tn ln nx ct hv v0 k0 v1 k1 ++ [(oa, .inl (cL G, 1, .inr (.inl of)))]) s.heap.size) s.heap s.heap [] := va_S.rf
  unfold qMi
  generalize hAe : va_A (xW G a v mo ki pr df co bi g9 lr bf tn ln nx ct hv v0 k0 v1 k1 ++ [(oa, .inl (cL G, 1, .inr (.inl of)))]) s.heap.size = A at hD hLo hS ⊢
  have hA : ∀ q, s.heap.size ≤ q → A q := fun q h => by rw [← hAe]; exact Or.inr h
  generalize ([] : List Loc) = locs at hS ⊢
  have hP := hP0
  refine lv_aload_n hx hb dL_bitsByWriting_0 rfl (lv_at hl 3 rfl) ?_
  refine lv_iconst (v := nI (0)) hx hb dL_bitsByWriting_1 (by decide) ?_
  refine lv_aload_n hx hb dL_bitsByWriting_2 rfl (lv_at hl 0 rfl) ?_
  refine lv_iload_n hx hb dL_bitsByWriting_3 rfl (lv_at hl 1 rfl) ?_
  refine lv_iload_n hx hb dL_bitsByWriting_4 rfl (lv_at hl 2 rfl) ?_
  rw [xW_y3, List.append_assoc] at hP hD
  refine kPreI (va_runV (As := [.int (nI (b)), .int (nI (q))]) (rest := [.int (nI (0)), .ref oa]) ⟨hx, hb, hml, hown, hts⟩ (c_X8_bitsByWriting a v mo ki pr df co bi g9 lr bf tn ln b q (by first | assumption | omega) (by first | assumption | omega) (by first | assumption | omega) (by first | assumption | omega) (by first | assumption | omega) (by first | assumption | omega) (pre_P hP) ((pre_D hD).weaken (fun _ _ _ h => hLo _ h))) (cwV 2 hts gL_bitsByWriting_X8_bitsByWriting rfl rfl rfl (by decide +kernel) ⟨Nat.le_of_ble_eq_true rfl, Nat.le_of_ble_eq_true rfl⟩) (preV hC hS hLo hP (ci := 7) (q0 := 0) rfl rfl) rfl rfl hl.1 rfl (lv_room (Nat.le_of_ble_eq_true rfl)) dL_bitsByWriting_5 ⟨Nat.zero_le _, Nat.zero_le _⟩) hP hD hS hA (fun _ => rfl) (fun r_3 u_1 H locs q_2 hP hD hS => ?_)
  have hP : PP G (xW G a v (va_up mo b (BEST v.1 v.2.1 b)) ki (fpS v.2.1 b (BEST v.1 v.2.1 b) pr 16) (fdS v.1 v.2.1 b (BEST v.1 v.2.1 b) df 16) co bi u_1.1 u_1.2 bf tn ln nx ct hv v0 k0 v1 k1 ++ [(oa, .inl (cL G, 1, .inr (.inl of)))]) H := by rw [xW_y3, List.append_assoc]; exact hP
  have hD : va_D A (xW G a v (va_up mo b (BEST v.1 v.2.1 b)) ki (fpS v.2.1 b (BEST v.1 v.2.1 b) pr 16) (fdS v.1 v.2.1 b (BEST v.1 v.2.1 b) df 16) co bi u_1.1 u_1.2 bf tn ln nx ct hv v0 k0 v1 k1 ++ [(oa, .inl (cL G, 1, .inr (.inl of)))]) := by rw [xW_y3, List.append_assoc]; exact hD
  refine topE (v' := nI (BTM v.1 v.2.1 b q)) (q_2) ?_
  refine lv_i2l (v := (nI (BTM v.1 v.2.1 b q)).toInt64) hx hb dL_bitsByWriting_8 (rfl) ?_
  refine gOut hx hb hC.K hP hD hS dL_bitsByWriting_9 (fun H locs hP hD hS => ?_)
  have hP : PP G (xW G a v (va_up mo b (BEST v.1 v.2.1 b)) ki (fpS v.2.1 b (BEST v.1 v.2.1 b) pr 16) (fdS v.1 v.2.1 b (BEST v.1 v.2.1 b) df 16) co bi u_1.1 u_1.2 bf tn ln nx ct hv v0 k0 v1 k1 ++ [(oa, .inl (cL G, 1, .inr (.inl (vp_updL of 0 ((nI (BTM v.1 v.2.1 b q)).toInt64)))))]) H := hP
  have hD : va_D A (xW G a v (va_up mo b (BEST v.1 v.2.1 b)) ki (fpS v.2.1 b (BEST v.1 v.2.1 b) pr 16) (fdS v.1 v.2.1 b (BEST v.1 v.2.1 b) df 16) co bi u_1.1 u_1.2 bf tn ln nx ct hv v0 k0 v1 k1 ++ [(oa, .inl (cL G, 1, .inr (.inl (vp_updL of 0 ((nI (BTM v.1 v.2.1 b q)).toInt64)))))]) := hD
  refine lv_goto (tgt := 21) hx hb dL_bitsByWriting_10 (by decide) ?_
  refine lv_iconst (v := nI (0)) hx hb dL_bitsByWriting_21 (by decide) ?_
  exact xMi (G := G) (post := (fun (r : Int32) (u : (Nat → Int32) × Nat) => r = nI 0)) (w1 := (fun (u : (Nat → Int32) × Nat) => xW G a v (va_up mo b (BEST v.1 v.2.1 b)) ki (fpS v.2.1 b (BEST v.1 v.2.1 b) pr 16) (fdS v.1 v.2.1 b (BEST v.1 v.2.1 b) df 16) co bi u.1 u.2 bf tn ln nx ct hv v0 k0 v1 k1 ++ [(oa, .inl (cL G, 1, .inr (.inl (vp_updL of 0 ((nI (BTM v.1 v.2.1 b q)).toInt64)))))])) (u_1) hx hb hr hlocks hP hS (by exact rfl) (by exact rfl) dL_bitsByWriting_22

set_option maxHeartbeats 4000000 in
set_option maxRecDepth 100000 in
theorem c_L_lastKind {l : Launch} {G : GT} {H0 : Heap} (a : Nat → Nat) (v : SVT) (mo ki : Nat → Nat) (pr df : Nat → Int) (co : Int32) (bi : Nat) (g9 : Nat → Int32) (lr : Nat) (bf : Nat → Int) (tn : Nat → Nat) (ln nx ct : Nat) (hv : Nat → SVT) (v0 : SVT) (k0 : Nat) (v1 : SVT) (k1 : Nat) (oa : Nat) (of : Nat → Int64) (b : Nat) (hb4 : b < 4) (hkd : 1 ≤ v.2.2.2.2.2.2.1 ∧ v.2.2.2.2.2.2.1 ≤ 20) (hpi : v.2.2.2.2.2.2.2.1 ≤ 999) (hP0 : PP G (xW G a v mo ki pr df co bi g9 lr bf tn ln nx ct hv v0 k0 v1 k1 ++ [(oa, .inl (cL G, 1, .inr (.inl of)))]) H0) (hB0 : va_D (lo G) (xW G a v mo ki pr df co bi g9 lr bf tn ln nx ct hv v0 k0 v1 k1 ++ [(oa, .inl (cL G, 1, .inr (.inl of)))])) : Met l yL_lastKind wsL_lastKind ({ frames := 2, cells := 0, slots := 0, locals := 41 } : Room) (pcG G [.ref (a 0), .int (nI (b)), .ref oa] H0) (qMi G (fun (r : Int32) (u : Unit) => r = nI 0) (fun (u : Unit) => xW G a v mo ki pr df co bi g9 lr bf tn ln nx ct hv v0 k0 v1 k1 ++ [(oa, .inl (cL G, 1, .inr (.inl (vp_updL of 0 ((iI (if v.2.2.2.2.2.2.2.1 = 0 then -1 else (v.2.2.2.1 b : Int))).toInt64)))))]) (xW G a v mo ki pr df co bi g9 lr bf tn ln nx ct hv v0 k0 v1 k1 ++ [(oa, .inl (cL G, 1, .inr (.inl of)))]) H0) 0 0 (va_A (xW G a v mo ki pr df co bi g9 lr bf tn ln nx ct hv v0 k0 v1 k1 ++ [(oa, .inl (cL G, 1, .inr (.inl of)))]) H0.size) := by
  refine enterH (cc := cL_lastKind) (maxL := 4) (ret := some .int) (own := RL) (lv := [(0, .ref (a 0)), (1, .int (nI (b))), (2, .ref oa)]) (by decide) rfl rfl rfl (Nat.le_of_ble_eq_true rfl) ?_
  intro pg ev s m below meth c hx hb hr hts hown hlocks hml htab hH hC ls hl
  subst hH
  have hLo := va_freeB hB0 hC.2.2.2.1
  have hD := hB0.self (sz := s.heap.size)
  have hS : va_S (va_A (xW G a v mo ki pr df co bi g9 lr bf tn ln nx ct hv v0 k0 v1 k1 ++ [(oa, .inl (cL G, 1, .inr (.inl of)))]) s.heap.size) s.heap s.heap [] := va_S.rf
  unfold qMi
  generalize hAe : va_A (xW G a v mo ki pr df co bi g9 lr bf tn ln nx ct hv v0 k0 v1 k1 ++ [(oa, .inl (cL G, 1, .inr (.inl of)))]) s.heap.size = A at hD hLo hS ⊢
  have hA : ∀ q, s.heap.size ≤ q → A q := fun q h => by rw [← hAe]; exact Or.inr h
  generalize ([] : List Loc) = locs at hS ⊢
  have hP := hP0
  refine lv_aload_n hx hb dL_lastKind_0 rfl (lv_at hl 2 rfl) ?_
  refine lv_iconst (v := nI (0)) hx hb dL_lastKind_1 (by decide) ?_
  refine lv_aload_n hx hb dL_lastKind_2 rfl (lv_at hl 0 rfl) ?_
  refine lv_iload_n hx hb dL_lastKind_3 rfl (lv_at hl 1 rfl) ?_
  refine kPi (va_runV (As := [.int (nI (b))]) (rest := [.int (nI (0)), .ref oa]) ⟨hx, hb, hml, hown, hts⟩ (c_X8_lastKind a v b (by first | assumption | omega) (by first | assumption | omega) (by first | assumption | omega) (xW_now (pre_P hP))) (cwV 1 hts gL_lastKind_X8_lastKind rfl rfl rfl (by decide +kernel) ⟨Nat.le_of_ble_eq_true rfl, Nat.le_of_ble_eq_true rfl⟩) (preV hC hS hLo hP (ci := 7) (q0 := 0) rfl rfl) rfl rfl hl.1 rfl (lv_room (Nat.le_of_ble_eq_true rfl)) dL_lastKind_4 ⟨Nat.zero_le _, Nat.zero_le _⟩) hS (fun locs hS => ?_)
  refine lv_i2l (v := (iI (if v.2.2.2.2.2.2.2.1 = 0 then -1 else (v.2.2.2.1 b : Int))).toInt64) hx hb dL_lastKind_7 (rfl) ?_
  refine gOut hx hb hC.K hP hD hS dL_lastKind_8 (fun H locs hP hD hS => ?_)
  have hP : PP G (xW G a v mo ki pr df co bi g9 lr bf tn ln nx ct hv v0 k0 v1 k1 ++ [(oa, .inl (cL G, 1, .inr (.inl (vp_updL of 0 ((iI (if v.2.2.2.2.2.2.2.1 = 0 then -1 else (v.2.2.2.1 b : Int))).toInt64)))))]) H := hP
  have hD : va_D A (xW G a v mo ki pr df co bi g9 lr bf tn ln nx ct hv v0 k0 v1 k1 ++ [(oa, .inl (cL G, 1, .inr (.inl (vp_updL of 0 ((iI (if v.2.2.2.2.2.2.2.1 = 0 then -1 else (v.2.2.2.1 b : Int))).toInt64)))))]) := hD
  refine lv_goto (tgt := 15) hx hb dL_lastKind_9 (by decide) ?_
  refine lv_iconst (v := nI (0)) hx hb dL_lastKind_15 (by decide) ?_
  exact xMi (G := G) (post := (fun (r : Int32) (u : Unit) => r = nI 0)) (w1 := (fun (u : Unit) => xW G a v mo ki pr df co bi g9 lr bf tn ln nx ct hv v0 k0 v1 k1 ++ [(oa, .inl (cL G, 1, .inr (.inl (vp_updL of 0 ((iI (if v.2.2.2.2.2.2.2.1 = 0 then -1 else (v.2.2.2.1 b : Int))).toInt64)))))])) (()) hx hb hr hlocks hP hS (by exact rfl) (by exact rfl) dL_lastKind_16

set_option maxHeartbeats 4000000 in
set_option maxRecDepth 100000 in
theorem c_L_lastMove {l : Launch} {G : GT} {H0 : Heap} (a : Nat → Nat) (v : SVT) (mo ki : Nat → Nat) (pr df : Nat → Int) (co : Int32) (bi : Nat) (g9 : Nat → Int32) (lr : Nat) (bf : Nat → Int) (tn : Nat → Nat) (ln nx ct : Nat) (hv : Nat → SVT) (v0 : SVT) (k0 : Nat) (v1 : SVT) (k1 : Nat) (oa : Nat) (of : Nat → Int64) (b : Nat) (hb4 : b < 4) (hkd : 1 ≤ v.2.2.2.2.2.2.1 ∧ v.2.2.2.2.2.2.1 ≤ 20) (hpi : v.2.2.2.2.2.2.2.1 ≤ 999) (hk2 : v.2.2.2.1 b ≤ 2) (hP0 : PP G (xW G a v mo ki pr df co bi g9 lr bf tn ln nx ct hv v0 k0 v1 k1 ++ [(oa, .inl (cL G, 1, .inr (.inl of)))]) H0) (hB0 : va_D (lo G) (xW G a v mo ki pr df co bi g9 lr bf tn ln nx ct hv v0 k0 v1 k1 ++ [(oa, .inl (cL G, 1, .inr (.inl of)))])) : Met l yL_lastMove wsL_lastMove ({ frames := 2, cells := 0, slots := 0, locals := 41 } : Room) (pcG G [.ref (a 0), .int (nI (b)), .ref oa] H0) (qMi G (fun (r : Int32) (u : Unit) => r = nI 0) (fun (u : Unit) => xW G a v mo ki pr df co bi g9 lr bf tn ln nx ct hv v0 k0 v1 k1 ++ [(oa, .inl (cL G, 1, .inr (.inl (vp_updL of 0 ((iI (if v.2.2.2.2.2.2.2.1 = 0 ∨ v.2.2.2.1 b = 0 then -1 else (v.2.2.2.2.1 b : Int))).toInt64)))))]) (xW G a v mo ki pr df co bi g9 lr bf tn ln nx ct hv v0 k0 v1 k1 ++ [(oa, .inl (cL G, 1, .inr (.inl of)))]) H0) 0 0 (va_A (xW G a v mo ki pr df co bi g9 lr bf tn ln nx ct hv v0 k0 v1 k1 ++ [(oa, .inl (cL G, 1, .inr (.inl of)))]) H0.size) := by
  refine enterH (cc := cL_lastMove) (maxL := 4) (ret := some .int) (own := RL) (lv := [(0, .ref (a 0)), (1, .int (nI (b))), (2, .ref oa)]) (by decide) rfl rfl rfl (Nat.le_of_ble_eq_true rfl) ?_
  intro pg ev s m below meth c hx hb hr hts hown hlocks hml htab hH hC ls hl
  subst hH
  have hLo := va_freeB hB0 hC.2.2.2.1
  have hD := hB0.self (sz := s.heap.size)
  have hS : va_S (va_A (xW G a v mo ki pr df co bi g9 lr bf tn ln nx ct hv v0 k0 v1 k1 ++ [(oa, .inl (cL G, 1, .inr (.inl of)))]) s.heap.size) s.heap s.heap [] := va_S.rf
  unfold qMi
  generalize hAe : va_A (xW G a v mo ki pr df co bi g9 lr bf tn ln nx ct hv v0 k0 v1 k1 ++ [(oa, .inl (cL G, 1, .inr (.inl of)))]) s.heap.size = A at hD hLo hS ⊢
  have hA : ∀ q, s.heap.size ≤ q → A q := fun q h => by rw [← hAe]; exact Or.inr h
  generalize ([] : List Loc) = locs at hS ⊢
  have hP := hP0
  refine lv_aload_n hx hb dL_lastMove_0 rfl (lv_at hl 2 rfl) ?_
  refine lv_iconst (v := nI (0)) hx hb dL_lastMove_1 (by decide) ?_
  refine lv_aload_n hx hb dL_lastMove_2 rfl (lv_at hl 0 rfl) ?_
  refine lv_iload_n hx hb dL_lastMove_3 rfl (lv_at hl 1 rfl) ?_
  refine kPi (va_runV (As := [.int (nI (b))]) (rest := [.int (nI (0)), .ref oa]) ⟨hx, hb, hml, hown, hts⟩ (c_X8_lastMove a v b (by first | assumption | omega) (by first | assumption | omega) (by first | assumption | omega) (by first | assumption | omega) (xW_now (pre_P hP))) (cwV 1 hts gL_lastMove_X8_lastMove rfl rfl rfl (by decide +kernel) ⟨Nat.le_of_ble_eq_true rfl, Nat.le_of_ble_eq_true rfl⟩) (preV hC hS hLo hP (ci := 7) (q0 := 0) rfl rfl) rfl rfl hl.1 rfl (lv_room (Nat.le_of_ble_eq_true rfl)) dL_lastMove_4 ⟨Nat.zero_le _, Nat.zero_le _⟩) hS (fun locs hS => ?_)
  refine lv_i2l (v := (iI (if v.2.2.2.2.2.2.2.1 = 0 ∨ v.2.2.2.1 b = 0 then -1 else (v.2.2.2.2.1 b : Int))).toInt64) hx hb dL_lastMove_7 (rfl) ?_
  refine gOut hx hb hC.K hP hD hS dL_lastMove_8 (fun H locs hP hD hS => ?_)
  have hP : PP G (xW G a v mo ki pr df co bi g9 lr bf tn ln nx ct hv v0 k0 v1 k1 ++ [(oa, .inl (cL G, 1, .inr (.inl (vp_updL of 0 ((iI (if v.2.2.2.2.2.2.2.1 = 0 ∨ v.2.2.2.1 b = 0 then -1 else (v.2.2.2.2.1 b : Int))).toInt64)))))]) H := hP
  have hD : va_D A (xW G a v mo ki pr df co bi g9 lr bf tn ln nx ct hv v0 k0 v1 k1 ++ [(oa, .inl (cL G, 1, .inr (.inl (vp_updL of 0 ((iI (if v.2.2.2.2.2.2.2.1 = 0 ∨ v.2.2.2.1 b = 0 then -1 else (v.2.2.2.2.1 b : Int))).toInt64)))))]) := hD
  refine lv_goto (tgt := 15) hx hb dL_lastMove_9 (by decide) ?_
  refine lv_iconst (v := nI (0)) hx hb dL_lastMove_15 (by decide) ?_
  exact xMi (G := G) (post := (fun (r : Int32) (u : Unit) => r = nI 0)) (w1 := (fun (u : Unit) => xW G a v mo ki pr df co bi g9 lr bf tn ln nx ct hv v0 k0 v1 k1 ++ [(oa, .inl (cL G, 1, .inr (.inl (vp_updL of 0 ((iI (if v.2.2.2.2.2.2.2.1 = 0 ∨ v.2.2.2.1 b = 0 then -1 else (v.2.2.2.2.1 b : Int))).toInt64)))))])) (()) hx hb hr hlocks hP hS (by exact rfl) (by exact rfl) dL_lastMove_16

set_option maxHeartbeats 4000000 in
set_option maxRecDepth 100000 in
theorem c_L_appendText {l : Launch} {G : GT} {H0 : Heap} (a : Nat → Nat) (v : SVT) (mo ki : Nat → Nat) (pr df : Nat → Int) (co : Int32) (bi : Nat) (g9 : Nat → Int32) (lr : Nat) (bf : Nat → Int) (tn : Nat → Nat) (ln nx ct : Nat) (hv : Nat → SVT) (v0 : SVT) (k0 : Nat) (v1 : SVT) (k1 : Nat) (oa : Nat) (of : Nat → Int64) (cu : Nat) (hu : cu < 2 ^ 64) (hcs : ¬ CS cu = 0) (hlk : ln + CS cu ≤ 80) (hP0 : PP G (xW G a v mo ki pr df co bi g9 lr bf tn ln nx ct hv v0 k0 v1 k1 ++ [(oa, .inl (cL G, 1, .inr (.inl of)))]) H0) (hB0 : va_D (lo G) (xW G a v mo ki pr df co bi g9 lr bf tn ln nx ct hv v0 k0 v1 k1 ++ [(oa, .inl (cL G, 1, .inr (.inl of)))])) : Met l yL_appendText wsL_appendText ({ frames := 2, cells := 0, slots := 0, locals := 47 } : Room) (pcG G [.ref (a 0), .long (lN cu), .ref oa] H0) (qMi G (fun (r : Int32) (u : Unit) => r = nI 0) (fun (u : Unit) => xW G a v mo ki pr df co bi g9 lr bf (adT tn ln cu (CS cu) (CS cu)) (ln + CS cu) nx ct hv v0 k0 v1 k1 ++ [(oa, .inl (cL G, 1, .inr (.inl (vp_updL of 0 ((nI (ln + CS cu)).toInt64)))))]) (xW G a v mo ki pr df co bi g9 lr bf tn ln nx ct hv v0 k0 v1 k1 ++ [(oa, .inl (cL G, 1, .inr (.inl of)))]) H0) 0 0 (va_A (xW G a v mo ki pr df co bi g9 lr bf tn ln nx ct hv v0 k0 v1 k1 ++ [(oa, .inl (cL G, 1, .inr (.inl of)))]) H0.size) := by
  refine enterH (cc := cL_appendText) (maxL := 5) (ret := some .int) (own := RL) (lv := [(0, .ref (a 0)), (1, .long (lN cu)), (3, .ref oa)]) (by decide) rfl rfl rfl (Nat.le_of_ble_eq_true rfl) ?_
  intro pg ev s m below meth c hx hb hr hts hown hlocks hml htab hH hC ls hl
  subst hH
  have hLo := va_freeB hB0 hC.2.2.2.1
  have hD := hB0.self (sz := s.heap.size)
  have hS : va_S (va_A (xW G a v mo ki pr df co bi g9 lr bf tn ln nx ct hv v0 k0 v1 k1 ++ [(oa, .inl (cL G, 1, .inr (.inl of)))]) s.heap.size) s.heap s.heap [] := va_S.rf
  unfold qMi
  generalize hAe : va_A (xW G a v mo ki pr df co bi g9 lr bf tn ln nx ct hv v0 k0 v1 k1 ++ [(oa, .inl (cL G, 1, .inr (.inl of)))]) s.heap.size = A at hD hLo hS ⊢
  have hA : ∀ q, s.heap.size ≤ q → A q := fun q h => by rw [← hAe]; exact Or.inr h
  generalize ([] : List Loc) = locs at hS ⊢
  have hP := hP0
  refine lv_aload_n hx hb dL_appendText_0 rfl (lv_at hl 2 rfl) ?_
  refine lv_iconst (v := nI (0)) hx hb dL_appendText_1 (by decide) ?_
  refine lv_aload_n hx hb dL_appendText_2 rfl (lv_at hl 0 rfl) ?_
  refine lv_lload_n hx hb dL_appendText_3 rfl (lv_at hl 1 rfl) ?_
  rw [xW_y3, List.append_assoc] at hP hD
  refine kPreI (va_runV (As := [.long (lN cu)]) (rest := [.int (nI (0)), .ref oa]) ⟨hx, hb, hml, hown, hts⟩ (c_X8_appendText a v mo ki pr df co bi g9 lr bf tn ln cu (by first | assumption | omega) (by first | assumption | omega) (by first | assumption | omega) (pre_P hP) ((pre_D hD).weaken (fun _ _ _ h => hLo _ h))) (cwV 1 hts gL_appendText_X8_appendText rfl rfl rfl (by decide +kernel) ⟨Nat.le_of_ble_eq_true rfl, Nat.le_of_ble_eq_true rfl⟩) (preV hC hS hLo hP (ci := 7) (q0 := 0) rfl rfl) rfl rfl hl.1 rfl (lv_room (Nat.le_of_ble_eq_true rfl)) dL_appendText_4 ⟨Nat.zero_le _, Nat.zero_le _⟩) hP hD hS hA (fun _ => rfl) (fun r_3 u_1 H locs q_2 hP hD hS => ?_)
  have hP : PP G (xW G a v mo ki pr df co bi g9 lr bf (adT tn ln cu (CS cu) (CS cu)) (ln + CS cu) nx ct hv v0 k0 v1 k1 ++ [(oa, .inl (cL G, 1, .inr (.inl of)))]) H := by rw [xW_y3, List.append_assoc]; exact hP
  have hD : va_D A (xW G a v mo ki pr df co bi g9 lr bf (adT tn ln cu (CS cu) (CS cu)) (ln + CS cu) nx ct hv v0 k0 v1 k1 ++ [(oa, .inl (cL G, 1, .inr (.inl of)))]) := by rw [xW_y3, List.append_assoc]; exact hD
  refine topE (v' := nI (ln + CS cu)) (q_2) ?_
  refine lv_i2l (v := (nI (ln + CS cu)).toInt64) hx hb dL_appendText_7 (rfl) ?_
  refine gOut hx hb hC.K hP hD hS dL_appendText_8 (fun H locs hP hD hS => ?_)
  have hP : PP G (xW G a v mo ki pr df co bi g9 lr bf (adT tn ln cu (CS cu) (CS cu)) (ln + CS cu) nx ct hv v0 k0 v1 k1 ++ [(oa, .inl (cL G, 1, .inr (.inl (vp_updL of 0 ((nI (ln + CS cu)).toInt64)))))]) H := hP
  have hD : va_D A (xW G a v mo ki pr df co bi g9 lr bf (adT tn ln cu (CS cu) (CS cu)) (ln + CS cu) nx ct hv v0 k0 v1 k1 ++ [(oa, .inl (cL G, 1, .inr (.inl (vp_updL of 0 ((nI (ln + CS cu)).toInt64)))))]) := hD
  refine lv_goto (tgt := 20) hx hb dL_appendText_9 (by decide) ?_
  refine lv_iconst (v := nI (0)) hx hb dL_appendText_20 (by decide) ?_
  exact xMi (G := G) (post := (fun (r : Int32) (u : Unit) => r = nI 0)) (w1 := (fun (u : Unit) => xW G a v mo ki pr df co bi g9 lr bf (adT tn ln cu (CS cu) (CS cu)) (ln + CS cu) nx ct hv v0 k0 v1 k1 ++ [(oa, .inl (cL G, 1, .inr (.inl (vp_updL of 0 ((nI (ln + CS cu)).toInt64)))))])) (()) hx hb hr hlocks hP hS (by exact rfl) (by exact rfl) dL_appendText_21

set_option maxHeartbeats 4000000 in
set_option maxRecDepth 100000 in
theorem c_L_undo {l : Launch} {G : GT} {H0 : Heap} (a : Nat → Nat) (v : SVT) (mo ki : Nat → Nat) (pr df : Nat → Int) (co : Int32) (bi : Nat) (g9 : Nat → Int32) (lr : Nat) (bf : Nat → Int) (tn : Nat → Nat) (ln nx ct : Nat) (hv : Nat → SVT) (v0 : SVT) (k0 : Nat) (v1 : SVT) (k1 : Nat) (oa : Nat) (of : Nat → Int64) (hnx : nx < 6) (hct : 1 ≤ ct ∧ ct ≤ 6) (hP0 : PP G (xW G a v mo ki pr df co bi g9 lr bf tn ln nx ct hv v0 k0 v1 k1 ++ [(oa, .inl (cL G, 1, .inr (.inl of)))]) H0) (hB0 : va_D (lo G) (xW G a v mo ki pr df co bi g9 lr bf tn ln nx ct hv v0 k0 v1 k1 ++ [(oa, .inl (cL G, 1, .inr (.inl of)))])) : Met l yL_undo wsL_undo ({ frames := 5, cells := 0, slots := 0, locals := 108 } : Room) (pcG G [.ref (a 0), .ref oa] H0) (qMi G (fun (r : Int32) (u : Unit) => r = nI 0) (fun (u : Unit) => xW G a (hv ((nx + 6 - 1) % 6)) mo ki pr df co bi g9 lr bf tn ln ((nx + 6 - 1) % 6) (ct - 1) hv v0 k0 v1 k1 ++ [(oa, .inl (cL G, 1, .inr (.inl (vp_updL of 0 ((nI (ct - 1)).toInt64)))))]) (xW G a v mo ki pr df co bi g9 lr bf tn ln nx ct hv v0 k0 v1 k1 ++ [(oa, .inl (cL G, 1, .inr (.inl of)))]) H0) 0 0 (va_A (xW G a v mo ki pr df co bi g9 lr bf tn ln nx ct hv v0 k0 v1 k1 ++ [(oa, .inl (cL G, 1, .inr (.inl of)))]) H0.size) := by
  refine enterH (cc := cL_undo) (maxL := 3) (ret := some .int) (own := RL) (lv := [(0, .ref (a 0)), (1, .ref oa)]) (by decide) rfl rfl rfl (Nat.le_of_ble_eq_true rfl) ?_
  intro pg ev s m below meth c hx hb hr hts hown hlocks hml htab hH hC ls hl
  subst hH
  have hLo := va_freeB hB0 hC.2.2.2.1
  have hD := hB0.self (sz := s.heap.size)
  have hS : va_S (va_A (xW G a v mo ki pr df co bi g9 lr bf tn ln nx ct hv v0 k0 v1 k1 ++ [(oa, .inl (cL G, 1, .inr (.inl of)))]) s.heap.size) s.heap s.heap [] := va_S.rf
  unfold qMi
  generalize hAe : va_A (xW G a v mo ki pr df co bi g9 lr bf tn ln nx ct hv v0 k0 v1 k1 ++ [(oa, .inl (cL G, 1, .inr (.inl of)))]) s.heap.size = A at hD hLo hS ⊢
  have hA : ∀ q, s.heap.size ≤ q → A q := fun q h => by rw [← hAe]; exact Or.inr h
  generalize ([] : List Loc) = locs at hS ⊢
  have hP := hP0
  refine lv_aload_n hx hb dL_undo_0 rfl (lv_at hl 1 rfl) ?_
  refine lv_iconst (v := nI (0)) hx hb dL_undo_1 (by decide) ?_
  refine lv_aload_n hx hb dL_undo_2 rfl (lv_at hl 0 rfl) ?_
  refine kPreI (va_runV (As := []) (rest := [.int (nI (0)), .ref oa]) ⟨hx, hb, hml, hown, hts⟩ (c_X8_undo a v mo ki pr df co bi g9 lr bf tn ln nx ct hv v0 k0 v1 k1 (by first | assumption | omega) (by first | assumption | omega) (pre_P hP) ((pre_D hD).weaken (fun _ _ _ h => hLo _ h))) (cwV 0 hts gL_undo_X8_undo rfl rfl rfl (by decide +kernel) ⟨Nat.le_of_ble_eq_true rfl, Nat.le_of_ble_eq_true rfl⟩) (preV hC hS hLo hP (ci := 7) (q0 := 0) rfl rfl) rfl rfl hl.1 rfl (lv_room (Nat.le_of_ble_eq_true rfl)) dL_undo_3 ⟨Nat.zero_le _, Nat.zero_le _⟩) hP hD hS hA (fun _ => rfl) (fun r_3 u_1 H locs q_2 hP hD hS => ?_)
  have hP : PP G (xW G a (hv ((nx + 6 - 1) % 6)) mo ki pr df co bi g9 lr bf tn ln ((nx + 6 - 1) % 6) (ct - 1) hv v0 k0 v1 k1 ++ [(oa, .inl (cL G, 1, .inr (.inl of)))]) H := hP
  have hD : va_D A (xW G a (hv ((nx + 6 - 1) % 6)) mo ki pr df co bi g9 lr bf tn ln ((nx + 6 - 1) % 6) (ct - 1) hv v0 k0 v1 k1 ++ [(oa, .inl (cL G, 1, .inr (.inl of)))]) := hD
  refine topE (v' := nI (ct - 1)) (q_2) ?_
  refine lv_i2l (v := (nI (ct - 1)).toInt64) hx hb dL_undo_6 (rfl) ?_
  refine gOut hx hb hC.K hP hD hS dL_undo_7 (fun H locs hP hD hS => ?_)
  have hP : PP G (xW G a (hv ((nx + 6 - 1) % 6)) mo ki pr df co bi g9 lr bf tn ln ((nx + 6 - 1) % 6) (ct - 1) hv v0 k0 v1 k1 ++ [(oa, .inl (cL G, 1, .inr (.inl (vp_updL of 0 ((nI (ct - 1)).toInt64)))))]) H := hP
  have hD : va_D A (xW G a (hv ((nx + 6 - 1) % 6)) mo ki pr df co bi g9 lr bf tn ln ((nx + 6 - 1) % 6) (ct - 1) hv v0 k0 v1 k1 ++ [(oa, .inl (cL G, 1, .inr (.inl (vp_updL of 0 ((nI (ct - 1)).toInt64)))))]) := hD
  refine lv_goto (tgt := 14) hx hb dL_undo_8 (by decide) ?_
  refine lv_iconst (v := nI (0)) hx hb dL_undo_14 (by decide) ?_
  exact xMi (G := G) (post := (fun (r : Int32) (u : Unit) => r = nI 0)) (w1 := (fun (u : Unit) => xW G a (hv ((nx + 6 - 1) % 6)) mo ki pr df co bi g9 lr bf tn ln ((nx + 6 - 1) % 6) (ct - 1) hv v0 k0 v1 k1 ++ [(oa, .inl (cL G, 1, .inr (.inl (vp_updL of 0 ((nI (ct - 1)).toInt64)))))])) (()) hx hb hr hlocks hP hS (by exact rfl) (by exact rfl) dL_undo_15

set_option maxHeartbeats 4000000 in
set_option maxRecDepth 100000 in
theorem c_L_send_n0 {l : Launch} {G : GT} {H0 : Heap} (a : Nat → Nat) (v : SVT) (mo ki : Nat → Nat) (pr df : Nat → Int) (co : Int32) (bi : Nat) (g9 : Nat → Int32) (lr : Nat) (bf : Nat → Int) (tn : Nat → Nat) (ln nx ct : Nat) (hv : Nat → SVT) (v0 : SVT) (k0 : Nat) (v1 : SVT) (k1 : Nat) (oa : Nat) (of : Nat → Int64) (hnx : nx < 6) (hct : ct ≤ 6) (hms : v.2.2.2.2.2.2.2.1 < 999) (hd : R15 v.1) (ht : R15 v.2.1) (hg : R15 v.2.2.1) (hdf : D15 df) (hmo : M25 mo) (hkd : 1 ≤ v.2.2.2.2.2.2.1 ∧ v.2.2.2.2.2.2.1 ≤ 20) (hpi : v.2.2.2.2.2.2.2.1 ≤ 999) (hkey : ¬ v.2.2.2.2.2.2.2.1 % v.2.2.2.2.2.2.1 = 0) (hbu : v.2.2.2.2.2.1 ≤ 300) (hP0 : PP G (xW G a v mo ki pr df co bi g9 lr bf tn ln nx ct hv v0 k0 v1 k1 ++ [(oa, .inl (cL G, 1, .inr (.inl of)))]) H0) (hB0 : va_D (lo G) (xW G a v mo ki pr df co bi g9 lr bf tn ln nx ct hv v0 k0 v1 k1 ++ [(oa, .inl (cL G, 1, .inr (.inl of)))])) : Met l yL_send wsL_send ({ frames := 6, cells := 0, slots := 0, locals := 142 } : Room) (pcG G [.ref (a 0), .int (nI (0)), .ref oa] H0) (qMi G (fun (r : Int32) (u : Unit) => r = nI 0) (fun (u : Unit) => xW G a (v.1, nT v.1 v.2.1 v.2.2.2.2.2.1, nG v.1 v.2.1 v.2.2.1 v.2.2.2.2.2.1, knN v.1 v.2.1 v.2.2.2.2.2.1, BEST v.1 v.2.1, v.2.2.2.2.2.1, v.2.2.2.2.2.2.1, v.2.2.2.2.2.2.2.1 + 1, v.2.2.2.2.2.2.2.2.1, v.2.2.2.2.2.2.2.2.2 + ABM v.1 v.2.1 (COM v.1 v.2.1 v.2.2.2.2.2.1) 4) (BEST v.1 v.2.1) (knN v.1 v.2.1 v.2.2.2.2.2.1) (pN v.1 v.2.1) (dN v.1 v.2.1) (nI (COM v.1 v.2.1 v.2.2.2.2.2.1)) (ABM v.1 v.2.1 (COM v.1 v.2.1 v.2.2.2.2.2.1) 4) g9 lr v.2.2.1 tn ln ((nx + 1) % 6) (min (ct + 1) 6) (va_up hv nx v) v0 k0 v1 k1 ++ [(oa, .inl (cL G, 1, .inr (.inl (vp_updL of 0 ((nI (ABM v.1 v.2.1 (COM v.1 v.2.1 v.2.2.2.2.2.1) 4)).toInt64)))))]) (xW G a v mo ki pr df co bi g9 lr bf tn ln nx ct hv v0 k0 v1 k1 ++ [(oa, .inl (cL G, 1, .inr (.inl of)))]) H0) 0 0 (va_A (xW G a v mo ki pr df co bi g9 lr bf tn ln nx ct hv v0 k0 v1 k1 ++ [(oa, .inl (cL G, 1, .inr (.inl of)))]) H0.size) := by
  refine enterH (cc := cL_send) (maxL := 4) (ret := some .int) (own := RL) (lv := [(0, .ref (a 0)), (1, .int (nI (0))), (2, .ref oa)]) (by decide) rfl rfl rfl (Nat.le_of_ble_eq_true rfl) ?_
  intro pg ev s m below meth c hx hb hr hts hown hlocks hml htab hH hC ls hl
  subst hH
  have hLo := va_freeB hB0 hC.2.2.2.1
  have hD := hB0.self (sz := s.heap.size)
  have hS : va_S (va_A (xW G a v mo ki pr df co bi g9 lr bf tn ln nx ct hv v0 k0 v1 k1 ++ [(oa, .inl (cL G, 1, .inr (.inl of)))]) s.heap.size) s.heap s.heap [] := va_S.rf
  unfold qMi
  generalize hAe : va_A (xW G a v mo ki pr df co bi g9 lr bf tn ln nx ct hv v0 k0 v1 k1 ++ [(oa, .inl (cL G, 1, .inr (.inl of)))]) s.heap.size = A at hD hLo hS ⊢
  have hA : ∀ q, s.heap.size ≤ q → A q := fun q h => by rw [← hAe]; exact Or.inr h
  generalize ([] : List Loc) = locs at hS ⊢
  have hP := hP0
  refine lv_aload_n hx hb dL_send_0 rfl (lv_at hl 2 rfl) ?_
  refine lv_iconst (v := nI (0)) hx hb dL_send_1 (by decide) ?_
  refine lv_aload_n hx hb dL_send_2 rfl (lv_at hl 0 rfl) ?_
  refine lv_iload_n hx hb dL_send_3 rfl (lv_at hl 1 rfl) ?_
  refine kPreI (va_runV (As := [.int (nI (0))]) (rest := [.int (nI (0)), .ref oa]) ⟨hx, hb, hml, hown, hts⟩ (c_X8_send_n0 a v mo ki pr df co bi g9 lr bf tn ln nx ct hv v0 k0 v1 k1 (by first | assumption | omega) (by first | assumption | omega) (by first | assumption | omega) (by first | assumption | omega) (by first | assumption | omega) (by first | assumption | omega) (by first | assumption | omega) (by first | assumption | omega) (by first | assumption | omega) (by first | assumption | omega) (by first | assumption | omega) (by first | assumption | omega) (pre_P hP) ((pre_D hD).weaken (fun _ _ _ h => hLo _ h))) (cwV 1 hts gL_send_X8_send rfl rfl rfl (by decide +kernel) ⟨Nat.le_of_ble_eq_true rfl, Nat.le_of_ble_eq_true rfl⟩) (preV hC hS hLo hP (ci := 7) (q0 := 0) rfl rfl) rfl rfl hl.1 rfl (lv_room (Nat.le_of_ble_eq_true rfl)) dL_send_4 ⟨Nat.zero_le _, Nat.zero_le _⟩) hP hD hS hA (fun _ => rfl) (fun r_3 u_1 H locs q_2 hP hD hS => ?_)
  have hP : PP G (xW G a (v.1, nT v.1 v.2.1 v.2.2.2.2.2.1, nG v.1 v.2.1 v.2.2.1 v.2.2.2.2.2.1, knN v.1 v.2.1 v.2.2.2.2.2.1, BEST v.1 v.2.1, v.2.2.2.2.2.1, v.2.2.2.2.2.2.1, v.2.2.2.2.2.2.2.1 + 1, v.2.2.2.2.2.2.2.2.1, v.2.2.2.2.2.2.2.2.2 + ABM v.1 v.2.1 (COM v.1 v.2.1 v.2.2.2.2.2.1) 4) (BEST v.1 v.2.1) (knN v.1 v.2.1 v.2.2.2.2.2.1) (pN v.1 v.2.1) (dN v.1 v.2.1) (nI (COM v.1 v.2.1 v.2.2.2.2.2.1)) (ABM v.1 v.2.1 (COM v.1 v.2.1 v.2.2.2.2.2.1) 4) g9 lr v.2.2.1 tn ln ((nx + 1) % 6) (min (ct + 1) 6) (va_up hv nx v) v0 k0 v1 k1 ++ [(oa, .inl (cL G, 1, .inr (.inl of)))]) H := hP
  have hD : va_D A (xW G a (v.1, nT v.1 v.2.1 v.2.2.2.2.2.1, nG v.1 v.2.1 v.2.2.1 v.2.2.2.2.2.1, knN v.1 v.2.1 v.2.2.2.2.2.1, BEST v.1 v.2.1, v.2.2.2.2.2.1, v.2.2.2.2.2.2.1, v.2.2.2.2.2.2.2.1 + 1, v.2.2.2.2.2.2.2.2.1, v.2.2.2.2.2.2.2.2.2 + ABM v.1 v.2.1 (COM v.1 v.2.1 v.2.2.2.2.2.1) 4) (BEST v.1 v.2.1) (knN v.1 v.2.1 v.2.2.2.2.2.1) (pN v.1 v.2.1) (dN v.1 v.2.1) (nI (COM v.1 v.2.1 v.2.2.2.2.2.1)) (ABM v.1 v.2.1 (COM v.1 v.2.1 v.2.2.2.2.2.1) 4) g9 lr v.2.2.1 tn ln ((nx + 1) % 6) (min (ct + 1) 6) (va_up hv nx v) v0 k0 v1 k1 ++ [(oa, .inl (cL G, 1, .inr (.inl of)))]) := hD
  refine topE (v' := nI (ABM v.1 v.2.1 (COM v.1 v.2.1 v.2.2.2.2.2.1) 4)) (q_2) ?_
  refine lv_i2l (v := (nI (ABM v.1 v.2.1 (COM v.1 v.2.1 v.2.2.2.2.2.1) 4)).toInt64) hx hb dL_send_7 (rfl) ?_
  refine gOut hx hb hC.K hP hD hS dL_send_8 (fun H locs hP hD hS => ?_)
  have hP : PP G (xW G a (v.1, nT v.1 v.2.1 v.2.2.2.2.2.1, nG v.1 v.2.1 v.2.2.1 v.2.2.2.2.2.1, knN v.1 v.2.1 v.2.2.2.2.2.1, BEST v.1 v.2.1, v.2.2.2.2.2.1, v.2.2.2.2.2.2.1, v.2.2.2.2.2.2.2.1 + 1, v.2.2.2.2.2.2.2.2.1, v.2.2.2.2.2.2.2.2.2 + ABM v.1 v.2.1 (COM v.1 v.2.1 v.2.2.2.2.2.1) 4) (BEST v.1 v.2.1) (knN v.1 v.2.1 v.2.2.2.2.2.1) (pN v.1 v.2.1) (dN v.1 v.2.1) (nI (COM v.1 v.2.1 v.2.2.2.2.2.1)) (ABM v.1 v.2.1 (COM v.1 v.2.1 v.2.2.2.2.2.1) 4) g9 lr v.2.2.1 tn ln ((nx + 1) % 6) (min (ct + 1) 6) (va_up hv nx v) v0 k0 v1 k1 ++ [(oa, .inl (cL G, 1, .inr (.inl (vp_updL of 0 ((nI (ABM v.1 v.2.1 (COM v.1 v.2.1 v.2.2.2.2.2.1) 4)).toInt64)))))]) H := hP
  have hD : va_D A (xW G a (v.1, nT v.1 v.2.1 v.2.2.2.2.2.1, nG v.1 v.2.1 v.2.2.1 v.2.2.2.2.2.1, knN v.1 v.2.1 v.2.2.2.2.2.1, BEST v.1 v.2.1, v.2.2.2.2.2.1, v.2.2.2.2.2.2.1, v.2.2.2.2.2.2.2.1 + 1, v.2.2.2.2.2.2.2.2.1, v.2.2.2.2.2.2.2.2.2 + ABM v.1 v.2.1 (COM v.1 v.2.1 v.2.2.2.2.2.1) 4) (BEST v.1 v.2.1) (knN v.1 v.2.1 v.2.2.2.2.2.1) (pN v.1 v.2.1) (dN v.1 v.2.1) (nI (COM v.1 v.2.1 v.2.2.2.2.2.1)) (ABM v.1 v.2.1 (COM v.1 v.2.1 v.2.2.2.2.2.1) 4) g9 lr v.2.2.1 tn ln ((nx + 1) % 6) (min (ct + 1) 6) (va_up hv nx v) v0 k0 v1 k1 ++ [(oa, .inl (cL G, 1, .inr (.inl (vp_updL of 0 ((nI (ABM v.1 v.2.1 (COM v.1 v.2.1 v.2.2.2.2.2.1) 4)).toInt64)))))]) := hD
  refine lv_goto (tgt := 15) hx hb dL_send_9 (by decide) ?_
  refine lv_iconst (v := nI (0)) hx hb dL_send_15 (by decide) ?_
  exact xMi (G := G) (post := (fun (r : Int32) (u : Unit) => r = nI 0)) (w1 := (fun (u : Unit) => xW G a (v.1, nT v.1 v.2.1 v.2.2.2.2.2.1, nG v.1 v.2.1 v.2.2.1 v.2.2.2.2.2.1, knN v.1 v.2.1 v.2.2.2.2.2.1, BEST v.1 v.2.1, v.2.2.2.2.2.1, v.2.2.2.2.2.2.1, v.2.2.2.2.2.2.2.1 + 1, v.2.2.2.2.2.2.2.2.1, v.2.2.2.2.2.2.2.2.2 + ABM v.1 v.2.1 (COM v.1 v.2.1 v.2.2.2.2.2.1) 4) (BEST v.1 v.2.1) (knN v.1 v.2.1 v.2.2.2.2.2.1) (pN v.1 v.2.1) (dN v.1 v.2.1) (nI (COM v.1 v.2.1 v.2.2.2.2.2.1)) (ABM v.1 v.2.1 (COM v.1 v.2.1 v.2.2.2.2.2.1) 4) g9 lr v.2.2.1 tn ln ((nx + 1) % 6) (min (ct + 1) 6) (va_up hv nx v) v0 k0 v1 k1 ++ [(oa, .inl (cL G, 1, .inr (.inl (vp_updL of 0 ((nI (ABM v.1 v.2.1 (COM v.1 v.2.1 v.2.2.2.2.2.1) 4)).toInt64)))))])) (()) hx hb hr hlocks hP hS (by exact rfl) (by exact rfl) dL_send_16

set_option maxHeartbeats 4000000 in
set_option maxRecDepth 100000 in
theorem c_L_send_n1 {l : Launch} {G : GT} {H0 : Heap} (a : Nat → Nat) (v : SVT) (mo ki : Nat → Nat) (pr df : Nat → Int) (co : Int32) (bi : Nat) (g9 : Nat → Int32) (lr : Nat) (bf : Nat → Int) (tn : Nat → Nat) (ln nx ct : Nat) (hv : Nat → SVT) (v0 : SVT) (k0 : Nat) (v1 : SVT) (k1 : Nat) (oa : Nat) (of : Nat → Int64) (hnx : nx < 6) (hct : ct ≤ 6) (hms : v.2.2.2.2.2.2.2.1 < 999) (hd : R15 v.1) (ht : R15 v.2.1) (hg : R15 v.2.2.1) (hdf : D15 df) (hmo : M25 mo) (hkd : 1 ≤ v.2.2.2.2.2.2.1 ∧ v.2.2.2.2.2.2.1 ≤ 20) (hpi : v.2.2.2.2.2.2.2.1 ≤ 999) (hkey : ¬ v.2.2.2.2.2.2.2.1 % v.2.2.2.2.2.2.1 = 0) (hbu : v.2.2.2.2.2.1 ≤ 300) (hP0 : PP G (xW G a v mo ki pr df co bi g9 lr bf tn ln nx ct hv v0 k0 v1 k1 ++ [(oa, .inl (cL G, 1, .inr (.inl of)))]) H0) (hB0 : va_D (lo G) (xW G a v mo ki pr df co bi g9 lr bf tn ln nx ct hv v0 k0 v1 k1 ++ [(oa, .inl (cL G, 1, .inr (.inl of)))])) : Met l yL_send wsL_send ({ frames := 6, cells := 0, slots := 0, locals := 142 } : Room) (pcG G [.ref (a 0), .int (nI (1)), .ref oa] H0) (qMi G (fun (r : Int32) (u : Unit) => r = nI 0) (fun (u : Unit) => xW G a (v.1, nT v.1 v.2.1 v.2.2.2.2.2.1, v.2.2.1, knN v.1 v.2.1 v.2.2.2.2.2.1, BEST v.1 v.2.1, v.2.2.2.2.2.1, v.2.2.2.2.2.2.1, v.2.2.2.2.2.2.2.1 + 1, v.2.2.2.2.2.2.2.2.1 + 1, v.2.2.2.2.2.2.2.2.2 + ABM v.1 v.2.1 (COM v.1 v.2.1 v.2.2.2.2.2.1) 4) (BEST v.1 v.2.1) (knN v.1 v.2.1 v.2.2.2.2.2.1) (pN v.1 v.2.1) (dN v.1 v.2.1) (nI (COM v.1 v.2.1 v.2.2.2.2.2.1)) (ABM v.1 v.2.1 (COM v.1 v.2.1 v.2.2.2.2.2.1) 4) g9 lr bf tn ln ((nx + 1) % 6) (min (ct + 1) 6) (va_up hv nx v) v0 k0 v1 k1 ++ [(oa, .inl (cL G, 1, .inr (.inl (vp_updL of 0 ((nI (ABM v.1 v.2.1 (COM v.1 v.2.1 v.2.2.2.2.2.1) 4)).toInt64)))))]) (xW G a v mo ki pr df co bi g9 lr bf tn ln nx ct hv v0 k0 v1 k1 ++ [(oa, .inl (cL G, 1, .inr (.inl of)))]) H0) 0 0 (va_A (xW G a v mo ki pr df co bi g9 lr bf tn ln nx ct hv v0 k0 v1 k1 ++ [(oa, .inl (cL G, 1, .inr (.inl of)))]) H0.size) := by
  refine enterH (cc := cL_send) (maxL := 4) (ret := some .int) (own := RL) (lv := [(0, .ref (a 0)), (1, .int (nI (1))), (2, .ref oa)]) (by decide) rfl rfl rfl (Nat.le_of_ble_eq_true rfl) ?_
  intro pg ev s m below meth c hx hb hr hts hown hlocks hml htab hH hC ls hl
  subst hH
  have hLo := va_freeB hB0 hC.2.2.2.1
  have hD := hB0.self (sz := s.heap.size)
  have hS : va_S (va_A (xW G a v mo ki pr df co bi g9 lr bf tn ln nx ct hv v0 k0 v1 k1 ++ [(oa, .inl (cL G, 1, .inr (.inl of)))]) s.heap.size) s.heap s.heap [] := va_S.rf
  unfold qMi
  generalize hAe : va_A (xW G a v mo ki pr df co bi g9 lr bf tn ln nx ct hv v0 k0 v1 k1 ++ [(oa, .inl (cL G, 1, .inr (.inl of)))]) s.heap.size = A at hD hLo hS ⊢
  have hA : ∀ q, s.heap.size ≤ q → A q := fun q h => by rw [← hAe]; exact Or.inr h
  generalize ([] : List Loc) = locs at hS ⊢
  have hP := hP0
  refine lv_aload_n hx hb dL_send_0 rfl (lv_at hl 2 rfl) ?_
  refine lv_iconst (v := nI (0)) hx hb dL_send_1 (by decide) ?_
  refine lv_aload_n hx hb dL_send_2 rfl (lv_at hl 0 rfl) ?_
  refine lv_iload_n hx hb dL_send_3 rfl (lv_at hl 1 rfl) ?_
  refine kPreI (va_runV (As := [.int (nI (1))]) (rest := [.int (nI (0)), .ref oa]) ⟨hx, hb, hml, hown, hts⟩ (c_X8_send_n1 a v mo ki pr df co bi g9 lr bf tn ln nx ct hv v0 k0 v1 k1 (by first | assumption | omega) (by first | assumption | omega) (by first | assumption | omega) (by first | assumption | omega) (by first | assumption | omega) (by first | assumption | omega) (by first | assumption | omega) (by first | assumption | omega) (by first | assumption | omega) (by first | assumption | omega) (by first | assumption | omega) (by first | assumption | omega) (pre_P hP) ((pre_D hD).weaken (fun _ _ _ h => hLo _ h))) (cwV 1 hts gL_send_X8_send rfl rfl rfl (by decide +kernel) ⟨Nat.le_of_ble_eq_true rfl, Nat.le_of_ble_eq_true rfl⟩) (preV hC hS hLo hP (ci := 7) (q0 := 0) rfl rfl) rfl rfl hl.1 rfl (lv_room (Nat.le_of_ble_eq_true rfl)) dL_send_4 ⟨Nat.zero_le _, Nat.zero_le _⟩) hP hD hS hA (fun _ => rfl) (fun r_3 u_1 H locs q_2 hP hD hS => ?_)
  have hP : PP G (xW G a (v.1, nT v.1 v.2.1 v.2.2.2.2.2.1, v.2.2.1, knN v.1 v.2.1 v.2.2.2.2.2.1, BEST v.1 v.2.1, v.2.2.2.2.2.1, v.2.2.2.2.2.2.1, v.2.2.2.2.2.2.2.1 + 1, v.2.2.2.2.2.2.2.2.1 + 1, v.2.2.2.2.2.2.2.2.2 + ABM v.1 v.2.1 (COM v.1 v.2.1 v.2.2.2.2.2.1) 4) (BEST v.1 v.2.1) (knN v.1 v.2.1 v.2.2.2.2.2.1) (pN v.1 v.2.1) (dN v.1 v.2.1) (nI (COM v.1 v.2.1 v.2.2.2.2.2.1)) (ABM v.1 v.2.1 (COM v.1 v.2.1 v.2.2.2.2.2.1) 4) g9 lr bf tn ln ((nx + 1) % 6) (min (ct + 1) 6) (va_up hv nx v) v0 k0 v1 k1 ++ [(oa, .inl (cL G, 1, .inr (.inl of)))]) H := hP
  have hD : va_D A (xW G a (v.1, nT v.1 v.2.1 v.2.2.2.2.2.1, v.2.2.1, knN v.1 v.2.1 v.2.2.2.2.2.1, BEST v.1 v.2.1, v.2.2.2.2.2.1, v.2.2.2.2.2.2.1, v.2.2.2.2.2.2.2.1 + 1, v.2.2.2.2.2.2.2.2.1 + 1, v.2.2.2.2.2.2.2.2.2 + ABM v.1 v.2.1 (COM v.1 v.2.1 v.2.2.2.2.2.1) 4) (BEST v.1 v.2.1) (knN v.1 v.2.1 v.2.2.2.2.2.1) (pN v.1 v.2.1) (dN v.1 v.2.1) (nI (COM v.1 v.2.1 v.2.2.2.2.2.1)) (ABM v.1 v.2.1 (COM v.1 v.2.1 v.2.2.2.2.2.1) 4) g9 lr bf tn ln ((nx + 1) % 6) (min (ct + 1) 6) (va_up hv nx v) v0 k0 v1 k1 ++ [(oa, .inl (cL G, 1, .inr (.inl of)))]) := hD
  refine topE (v' := nI (ABM v.1 v.2.1 (COM v.1 v.2.1 v.2.2.2.2.2.1) 4)) (q_2) ?_
  refine lv_i2l (v := (nI (ABM v.1 v.2.1 (COM v.1 v.2.1 v.2.2.2.2.2.1) 4)).toInt64) hx hb dL_send_7 (rfl) ?_
  refine gOut hx hb hC.K hP hD hS dL_send_8 (fun H locs hP hD hS => ?_)
  have hP : PP G (xW G a (v.1, nT v.1 v.2.1 v.2.2.2.2.2.1, v.2.2.1, knN v.1 v.2.1 v.2.2.2.2.2.1, BEST v.1 v.2.1, v.2.2.2.2.2.1, v.2.2.2.2.2.2.1, v.2.2.2.2.2.2.2.1 + 1, v.2.2.2.2.2.2.2.2.1 + 1, v.2.2.2.2.2.2.2.2.2 + ABM v.1 v.2.1 (COM v.1 v.2.1 v.2.2.2.2.2.1) 4) (BEST v.1 v.2.1) (knN v.1 v.2.1 v.2.2.2.2.2.1) (pN v.1 v.2.1) (dN v.1 v.2.1) (nI (COM v.1 v.2.1 v.2.2.2.2.2.1)) (ABM v.1 v.2.1 (COM v.1 v.2.1 v.2.2.2.2.2.1) 4) g9 lr bf tn ln ((nx + 1) % 6) (min (ct + 1) 6) (va_up hv nx v) v0 k0 v1 k1 ++ [(oa, .inl (cL G, 1, .inr (.inl (vp_updL of 0 ((nI (ABM v.1 v.2.1 (COM v.1 v.2.1 v.2.2.2.2.2.1) 4)).toInt64)))))]) H := hP
  have hD : va_D A (xW G a (v.1, nT v.1 v.2.1 v.2.2.2.2.2.1, v.2.2.1, knN v.1 v.2.1 v.2.2.2.2.2.1, BEST v.1 v.2.1, v.2.2.2.2.2.1, v.2.2.2.2.2.2.1, v.2.2.2.2.2.2.2.1 + 1, v.2.2.2.2.2.2.2.2.1 + 1, v.2.2.2.2.2.2.2.2.2 + ABM v.1 v.2.1 (COM v.1 v.2.1 v.2.2.2.2.2.1) 4) (BEST v.1 v.2.1) (knN v.1 v.2.1 v.2.2.2.2.2.1) (pN v.1 v.2.1) (dN v.1 v.2.1) (nI (COM v.1 v.2.1 v.2.2.2.2.2.1)) (ABM v.1 v.2.1 (COM v.1 v.2.1 v.2.2.2.2.2.1) 4) g9 lr bf tn ln ((nx + 1) % 6) (min (ct + 1) 6) (va_up hv nx v) v0 k0 v1 k1 ++ [(oa, .inl (cL G, 1, .inr (.inl (vp_updL of 0 ((nI (ABM v.1 v.2.1 (COM v.1 v.2.1 v.2.2.2.2.2.1) 4)).toInt64)))))]) := hD
  refine lv_goto (tgt := 15) hx hb dL_send_9 (by decide) ?_
  refine lv_iconst (v := nI (0)) hx hb dL_send_15 (by decide) ?_
  exact xMi (G := G) (post := (fun (r : Int32) (u : Unit) => r = nI 0)) (w1 := (fun (u : Unit) => xW G a (v.1, nT v.1 v.2.1 v.2.2.2.2.2.1, v.2.2.1, knN v.1 v.2.1 v.2.2.2.2.2.1, BEST v.1 v.2.1, v.2.2.2.2.2.1, v.2.2.2.2.2.2.1, v.2.2.2.2.2.2.2.1 + 1, v.2.2.2.2.2.2.2.2.1 + 1, v.2.2.2.2.2.2.2.2.2 + ABM v.1 v.2.1 (COM v.1 v.2.1 v.2.2.2.2.2.1) 4) (BEST v.1 v.2.1) (knN v.1 v.2.1 v.2.2.2.2.2.1) (pN v.1 v.2.1) (dN v.1 v.2.1) (nI (COM v.1 v.2.1 v.2.2.2.2.2.1)) (ABM v.1 v.2.1 (COM v.1 v.2.1 v.2.2.2.2.2.1) 4) g9 lr bf tn ln ((nx + 1) % 6) (min (ct + 1) 6) (va_up hv nx v) v0 k0 v1 k1 ++ [(oa, .inl (cL G, 1, .inr (.inl (vp_updL of 0 ((nI (ABM v.1 v.2.1 (COM v.1 v.2.1 v.2.2.2.2.2.1) 4)).toInt64)))))])) (()) hx hb hr hlocks hP hS (by exact rfl) (by exact rfl) dL_send_16

set_option maxHeartbeats 4000000 in
set_option maxRecDepth 100000 in
theorem c_L_send_k0 {l : Launch} {G : GT} {H0 : Heap} (a : Nat → Nat) (v : SVT) (mo ki : Nat → Nat) (pr df : Nat → Int) (co : Int32) (bi : Nat) (g9 : Nat → Int32) (lr : Nat) (bf : Nat → Int) (tn : Nat → Nat) (ln nx ct : Nat) (hv : Nat → SVT) (v0 : SVT) (k0 : Nat) (v1 : SVT) (k1 : Nat) (oa : Nat) (of : Nat → Int64) (hnx : nx < 6) (hct : ct ≤ 6) (hms : v.2.2.2.2.2.2.2.1 < 999) (hkd : 1 ≤ v.2.2.2.2.2.2.1 ∧ v.2.2.2.2.2.2.1 ≤ 20) (hpi : v.2.2.2.2.2.2.2.1 ≤ 999) (hkey : v.2.2.2.2.2.2.2.1 % v.2.2.2.2.2.2.1 = 0) (hP0 : PP G (xW G a v mo ki pr df co bi g9 lr bf tn ln nx ct hv v0 k0 v1 k1 ++ [(oa, .inl (cL G, 1, .inr (.inl of)))]) H0) (hB0 : va_D (lo G) (xW G a v mo ki pr df co bi g9 lr bf tn ln nx ct hv v0 k0 v1 k1 ++ [(oa, .inl (cL G, 1, .inr (.inl of)))])) : Met l yL_send wsL_send ({ frames := 5, cells := 0, slots := 0, locals := 113 } : Room) (pcG G [.ref (a 0), .int (nI (0)), .ref oa] H0) (qMi G (fun (r : Int32) (u : Unit) => r = nI 0) (fun (u : Unit) => xW G a (v.1, v.1, v.1, fun _ => 0, mo, v.2.2.2.2.2.1, v.2.2.2.2.2.2.1, v.2.2.2.2.2.2.2.1 + 1, v.2.2.2.2.2.2.2.2.1, v.2.2.2.2.2.2.2.2.2 + 264) mo (fzK ki 4) pr df (iI (-1)) 264 g9 lr v.2.2.1 tn ln ((nx + 1) % 6) (min (ct + 1) 6) (va_up hv nx v) v0 k0 v1 k1 ++ [(oa, .inl (cL G, 1, .inr (.inl (vp_updL of 0 ((nI (264)).toInt64)))))]) (xW G a v mo ki pr df co bi g9 lr bf tn ln nx ct hv v0 k0 v1 k1 ++ [(oa, .inl (cL G, 1, .inr (.inl of)))]) H0) 0 0 (va_A (xW G a v mo ki pr df co bi g9 lr bf tn ln nx ct hv v0 k0 v1 k1 ++ [(oa, .inl (cL G, 1, .inr (.inl of)))]) H0.size) := by
  refine enterH (cc := cL_send) (maxL := 4) (ret := some .int) (own := RL) (lv := [(0, .ref (a 0)), (1, .int (nI (0))), (2, .ref oa)]) (by decide) rfl rfl rfl (Nat.le_of_ble_eq_true rfl) ?_
  intro pg ev s m below meth c hx hb hr hts hown hlocks hml htab hH hC ls hl
  subst hH
  have hLo := va_freeB hB0 hC.2.2.2.1
  have hD := hB0.self (sz := s.heap.size)
  have hS : va_S (va_A (xW G a v mo ki pr df co bi g9 lr bf tn ln nx ct hv v0 k0 v1 k1 ++ [(oa, .inl (cL G, 1, .inr (.inl of)))]) s.heap.size) s.heap s.heap [] := va_S.rf
  unfold qMi
  generalize hAe : va_A (xW G a v mo ki pr df co bi g9 lr bf tn ln nx ct hv v0 k0 v1 k1 ++ [(oa, .inl (cL G, 1, .inr (.inl of)))]) s.heap.size = A at hD hLo hS ⊢
  have hA : ∀ q, s.heap.size ≤ q → A q := fun q h => by rw [← hAe]; exact Or.inr h
  generalize ([] : List Loc) = locs at hS ⊢
  have hP := hP0
  refine lv_aload_n hx hb dL_send_0 rfl (lv_at hl 2 rfl) ?_
  refine lv_iconst (v := nI (0)) hx hb dL_send_1 (by decide) ?_
  refine lv_aload_n hx hb dL_send_2 rfl (lv_at hl 0 rfl) ?_
  refine lv_iload_n hx hb dL_send_3 rfl (lv_at hl 1 rfl) ?_
  refine kPreI (va_runV (As := [.int (nI (0))]) (rest := [.int (nI (0)), .ref oa]) ⟨hx, hb, hml, hown, hts⟩ (c_X8_send_k0 a v mo ki pr df co bi g9 lr bf tn ln nx ct hv v0 k0 v1 k1 (by first | assumption | omega) (by first | assumption | omega) (by first | assumption | omega) (by first | assumption | omega) (by first | assumption | omega) (by first | assumption | omega) (pre_P hP) ((pre_D hD).weaken (fun _ _ _ h => hLo _ h))) (cwV 1 hts gL_send_X8_send rfl rfl rfl (by decide +kernel) ⟨Nat.le_of_ble_eq_true rfl, Nat.le_of_ble_eq_true rfl⟩) (preV hC hS hLo hP (ci := 7) (q0 := 0) rfl rfl) rfl rfl hl.1 rfl (lv_room (Nat.le_of_ble_eq_true rfl)) dL_send_4 ⟨Nat.zero_le _, Nat.zero_le _⟩) hP hD hS hA (fun _ => rfl) (fun r_3 u_1 H locs q_2 hP hD hS => ?_)
  have hP : PP G (xW G a (v.1, v.1, v.1, fun _ => 0, mo, v.2.2.2.2.2.1, v.2.2.2.2.2.2.1, v.2.2.2.2.2.2.2.1 + 1, v.2.2.2.2.2.2.2.2.1, v.2.2.2.2.2.2.2.2.2 + 264) mo (fzK ki 4) pr df (iI (-1)) 264 g9 lr v.2.2.1 tn ln ((nx + 1) % 6) (min (ct + 1) 6) (va_up hv nx v) v0 k0 v1 k1 ++ [(oa, .inl (cL G, 1, .inr (.inl of)))]) H := hP
  have hD : va_D A (xW G a (v.1, v.1, v.1, fun _ => 0, mo, v.2.2.2.2.2.1, v.2.2.2.2.2.2.1, v.2.2.2.2.2.2.2.1 + 1, v.2.2.2.2.2.2.2.2.1, v.2.2.2.2.2.2.2.2.2 + 264) mo (fzK ki 4) pr df (iI (-1)) 264 g9 lr v.2.2.1 tn ln ((nx + 1) % 6) (min (ct + 1) 6) (va_up hv nx v) v0 k0 v1 k1 ++ [(oa, .inl (cL G, 1, .inr (.inl of)))]) := hD
  refine topE (v' := nI (264)) (q_2) ?_
  refine lv_i2l (v := (nI (264)).toInt64) hx hb dL_send_7 (rfl) ?_
  refine gOut hx hb hC.K hP hD hS dL_send_8 (fun H locs hP hD hS => ?_)
  have hP : PP G (xW G a (v.1, v.1, v.1, fun _ => 0, mo, v.2.2.2.2.2.1, v.2.2.2.2.2.2.1, v.2.2.2.2.2.2.2.1 + 1, v.2.2.2.2.2.2.2.2.1, v.2.2.2.2.2.2.2.2.2 + 264) mo (fzK ki 4) pr df (iI (-1)) 264 g9 lr v.2.2.1 tn ln ((nx + 1) % 6) (min (ct + 1) 6) (va_up hv nx v) v0 k0 v1 k1 ++ [(oa, .inl (cL G, 1, .inr (.inl (vp_updL of 0 ((nI (264)).toInt64)))))]) H := hP
  have hD : va_D A (xW G a (v.1, v.1, v.1, fun _ => 0, mo, v.2.2.2.2.2.1, v.2.2.2.2.2.2.1, v.2.2.2.2.2.2.2.1 + 1, v.2.2.2.2.2.2.2.2.1, v.2.2.2.2.2.2.2.2.2 + 264) mo (fzK ki 4) pr df (iI (-1)) 264 g9 lr v.2.2.1 tn ln ((nx + 1) % 6) (min (ct + 1) 6) (va_up hv nx v) v0 k0 v1 k1 ++ [(oa, .inl (cL G, 1, .inr (.inl (vp_updL of 0 ((nI (264)).toInt64)))))]) := hD
  refine lv_goto (tgt := 15) hx hb dL_send_9 (by decide) ?_
  refine lv_iconst (v := nI (0)) hx hb dL_send_15 (by decide) ?_
  exact xMi (G := G) (post := (fun (r : Int32) (u : Unit) => r = nI 0)) (w1 := (fun (u : Unit) => xW G a (v.1, v.1, v.1, fun _ => 0, mo, v.2.2.2.2.2.1, v.2.2.2.2.2.2.1, v.2.2.2.2.2.2.2.1 + 1, v.2.2.2.2.2.2.2.2.1, v.2.2.2.2.2.2.2.2.2 + 264) mo (fzK ki 4) pr df (iI (-1)) 264 g9 lr v.2.2.1 tn ln ((nx + 1) % 6) (min (ct + 1) 6) (va_up hv nx v) v0 k0 v1 k1 ++ [(oa, .inl (cL G, 1, .inr (.inl (vp_updL of 0 ((nI (264)).toInt64)))))])) (()) hx hb hr hlocks hP hS (by exact rfl) (by exact rfl) dL_send_16

set_option maxHeartbeats 4000000 in
set_option maxRecDepth 100000 in
theorem c_L_send_k1 {l : Launch} {G : GT} {H0 : Heap} (a : Nat → Nat) (v : SVT) (mo ki : Nat → Nat) (pr df : Nat → Int) (co : Int32) (bi : Nat) (g9 : Nat → Int32) (lr : Nat) (bf : Nat → Int) (tn : Nat → Nat) (ln nx ct : Nat) (hv : Nat → SVT) (v0 : SVT) (k0 : Nat) (v1 : SVT) (k1 : Nat) (oa : Nat) (of : Nat → Int64) (hnx : nx < 6) (hct : ct ≤ 6) (hms : v.2.2.2.2.2.2.2.1 < 999) (hkd : 1 ≤ v.2.2.2.2.2.2.1 ∧ v.2.2.2.2.2.2.1 ≤ 20) (hpi : v.2.2.2.2.2.2.2.1 ≤ 999) (hkey : v.2.2.2.2.2.2.2.1 % v.2.2.2.2.2.2.1 = 0) (hP0 : PP G (xW G a v mo ki pr df co bi g9 lr bf tn ln nx ct hv v0 k0 v1 k1 ++ [(oa, .inl (cL G, 1, .inr (.inl of)))]) H0) (hB0 : va_D (lo G) (xW G a v mo ki pr df co bi g9 lr bf tn ln nx ct hv v0 k0 v1 k1 ++ [(oa, .inl (cL G, 1, .inr (.inl of)))])) : Met l yL_send wsL_send ({ frames := 5, cells := 0, slots := 0, locals := 109 } : Room) (pcG G [.ref (a 0), .int (nI (1)), .ref oa] H0) (qMi G (fun (r : Int32) (u : Unit) => r = nI 0) (fun (u : Unit) => xW G a (v.1, v.1, v.2.2.1, fun _ => 0, mo, v.2.2.2.2.2.1, v.2.2.2.2.2.2.1, v.2.2.2.2.2.2.2.1 + 1, v.2.2.2.2.2.2.2.2.1 + 1, v.2.2.2.2.2.2.2.2.2 + 264) mo (fzK ki 4) pr df (iI (-1)) 264 g9 lr bf tn ln ((nx + 1) % 6) (min (ct + 1) 6) (va_up hv nx v) v0 k0 v1 k1 ++ [(oa, .inl (cL G, 1, .inr (.inl (vp_updL of 0 ((nI (264)).toInt64)))))]) (xW G a v mo ki pr df co bi g9 lr bf tn ln nx ct hv v0 k0 v1 k1 ++ [(oa, .inl (cL G, 1, .inr (.inl of)))]) H0) 0 0 (va_A (xW G a v mo ki pr df co bi g9 lr bf tn ln nx ct hv v0 k0 v1 k1 ++ [(oa, .inl (cL G, 1, .inr (.inl of)))]) H0.size) := by
  refine enterH (cc := cL_send) (maxL := 4) (ret := some .int) (own := RL) (lv := [(0, .ref (a 0)), (1, .int (nI (1))), (2, .ref oa)]) (by decide) rfl rfl rfl (Nat.le_of_ble_eq_true rfl) ?_
  intro pg ev s m below meth c hx hb hr hts hown hlocks hml htab hH hC ls hl
  subst hH
  have hLo := va_freeB hB0 hC.2.2.2.1
  have hD := hB0.self (sz := s.heap.size)
  have hS : va_S (va_A (xW G a v mo ki pr df co bi g9 lr bf tn ln nx ct hv v0 k0 v1 k1 ++ [(oa, .inl (cL G, 1, .inr (.inl of)))]) s.heap.size) s.heap s.heap [] := va_S.rf
  unfold qMi
  generalize hAe : va_A (xW G a v mo ki pr df co bi g9 lr bf tn ln nx ct hv v0 k0 v1 k1 ++ [(oa, .inl (cL G, 1, .inr (.inl of)))]) s.heap.size = A at hD hLo hS ⊢
  have hA : ∀ q, s.heap.size ≤ q → A q := fun q h => by rw [← hAe]; exact Or.inr h
  generalize ([] : List Loc) = locs at hS ⊢
  have hP := hP0
  refine lv_aload_n hx hb dL_send_0 rfl (lv_at hl 2 rfl) ?_
  refine lv_iconst (v := nI (0)) hx hb dL_send_1 (by decide) ?_
  refine lv_aload_n hx hb dL_send_2 rfl (lv_at hl 0 rfl) ?_
  refine lv_iload_n hx hb dL_send_3 rfl (lv_at hl 1 rfl) ?_
  refine kPreI (va_runV (As := [.int (nI (1))]) (rest := [.int (nI (0)), .ref oa]) ⟨hx, hb, hml, hown, hts⟩ (c_X8_send_k1 a v mo ki pr df co bi g9 lr bf tn ln nx ct hv v0 k0 v1 k1 (by first | assumption | omega) (by first | assumption | omega) (by first | assumption | omega) (by first | assumption | omega) (by first | assumption | omega) (by first | assumption | omega) (pre_P hP) ((pre_D hD).weaken (fun _ _ _ h => hLo _ h))) (cwV 1 hts gL_send_X8_send rfl rfl rfl (by decide +kernel) ⟨Nat.le_of_ble_eq_true rfl, Nat.le_of_ble_eq_true rfl⟩) (preV hC hS hLo hP (ci := 7) (q0 := 0) rfl rfl) rfl rfl hl.1 rfl (lv_room (Nat.le_of_ble_eq_true rfl)) dL_send_4 ⟨Nat.zero_le _, Nat.zero_le _⟩) hP hD hS hA (fun _ => rfl) (fun r_3 u_1 H locs q_2 hP hD hS => ?_)
  have hP : PP G (xW G a (v.1, v.1, v.2.2.1, fun _ => 0, mo, v.2.2.2.2.2.1, v.2.2.2.2.2.2.1, v.2.2.2.2.2.2.2.1 + 1, v.2.2.2.2.2.2.2.2.1 + 1, v.2.2.2.2.2.2.2.2.2 + 264) mo (fzK ki 4) pr df (iI (-1)) 264 g9 lr bf tn ln ((nx + 1) % 6) (min (ct + 1) 6) (va_up hv nx v) v0 k0 v1 k1 ++ [(oa, .inl (cL G, 1, .inr (.inl of)))]) H := hP
  have hD : va_D A (xW G a (v.1, v.1, v.2.2.1, fun _ => 0, mo, v.2.2.2.2.2.1, v.2.2.2.2.2.2.1, v.2.2.2.2.2.2.2.1 + 1, v.2.2.2.2.2.2.2.2.1 + 1, v.2.2.2.2.2.2.2.2.2 + 264) mo (fzK ki 4) pr df (iI (-1)) 264 g9 lr bf tn ln ((nx + 1) % 6) (min (ct + 1) 6) (va_up hv nx v) v0 k0 v1 k1 ++ [(oa, .inl (cL G, 1, .inr (.inl of)))]) := hD
  refine topE (v' := nI (264)) (q_2) ?_
  refine lv_i2l (v := (nI (264)).toInt64) hx hb dL_send_7 (rfl) ?_
  refine gOut hx hb hC.K hP hD hS dL_send_8 (fun H locs hP hD hS => ?_)
  have hP : PP G (xW G a (v.1, v.1, v.2.2.1, fun _ => 0, mo, v.2.2.2.2.2.1, v.2.2.2.2.2.2.1, v.2.2.2.2.2.2.2.1 + 1, v.2.2.2.2.2.2.2.2.1 + 1, v.2.2.2.2.2.2.2.2.2 + 264) mo (fzK ki 4) pr df (iI (-1)) 264 g9 lr bf tn ln ((nx + 1) % 6) (min (ct + 1) 6) (va_up hv nx v) v0 k0 v1 k1 ++ [(oa, .inl (cL G, 1, .inr (.inl (vp_updL of 0 ((nI (264)).toInt64)))))]) H := hP
  have hD : va_D A (xW G a (v.1, v.1, v.2.2.1, fun _ => 0, mo, v.2.2.2.2.2.1, v.2.2.2.2.2.2.1, v.2.2.2.2.2.2.2.1 + 1, v.2.2.2.2.2.2.2.2.1 + 1, v.2.2.2.2.2.2.2.2.2 + 264) mo (fzK ki 4) pr df (iI (-1)) 264 g9 lr bf tn ln ((nx + 1) % 6) (min (ct + 1) 6) (va_up hv nx v) v0 k0 v1 k1 ++ [(oa, .inl (cL G, 1, .inr (.inl (vp_updL of 0 ((nI (264)).toInt64)))))]) := hD
  refine lv_goto (tgt := 15) hx hb dL_send_9 (by decide) ?_
  refine lv_iconst (v := nI (0)) hx hb dL_send_15 (by decide) ?_
  exact xMi (G := G) (post := (fun (r : Int32) (u : Unit) => r = nI 0)) (w1 := (fun (u : Unit) => xW G a (v.1, v.1, v.2.2.1, fun _ => 0, mo, v.2.2.2.2.2.1, v.2.2.2.2.2.2.1, v.2.2.2.2.2.2.2.1 + 1, v.2.2.2.2.2.2.2.2.1 + 1, v.2.2.2.2.2.2.2.2.2 + 264) mo (fzK ki 4) pr df (iI (-1)) 264 g9 lr bf tn ln ((nx + 1) % 6) (min (ct + 1) 6) (va_up hv nx v) v0 k0 v1 k1 ++ [(oa, .inl (cL G, 1, .inr (.inl (vp_updL of 0 ((nI (264)).toInt64)))))])) (()) hx hb hr hlocks hP hS (by exact rfl) (by exact rfl) dL_send_16

set_option maxHeartbeats 4000000 in
set_option maxRecDepth 100000 in
theorem c_L_saveState_s0 {l : Launch} {G : GT} {H0 : Heap} (a : Nat → Nat) (v : SVT) (mo ki : Nat → Nat) (pr df : Nat → Int) (co : Int32) (bi : Nat) (g9 : Nat → Int32) (lr : Nat) (bf : Nat → Int) (tn : Nat → Nat) (ln nx ct : Nat) (hv : Nat → SVT) (v0 : SVT) (k0 : Nat) (v1 : SVT) (k1 : Nat) (oa : Nat) (of : Nat → Int64)  (hP0 : PP G (xW G a v mo ki pr df co bi g9 lr bf tn ln nx ct hv v0 k0 v1 k1 ++ [(oa, .inl (cL G, 1, .inr (.inl of)))]) H0) (hB0 : va_D (lo G) (xW G a v mo ki pr df co bi g9 lr bf tn ln nx ct hv v0 k0 v1 k1 ++ [(oa, .inl (cL G, 1, .inr (.inl of)))])) : Met l yL_saveState wsL_saveState ({ frames := 4, cells := 0, slots := 0, locals := 88 } : Room) (pcG G [.ref (a 0), .int (nI (0)), .ref oa] H0) (qMi G (fun (r : Int32) (u : Unit) => r = nI 0) (fun (u : Unit) => xW G a v mo ki pr df co bi g9 lr bf tn ln nx ct hv v 1 v1 k1 ++ [(oa, .inl (cL G, 1, .inr (.inl (vp_updL of 0 ((nI (v.2.2.2.2.2.2.2.1)).toInt64)))))]) (xW G a v mo ki pr df co bi g9 lr bf tn ln nx ct hv v0 k0 v1 k1 ++ [(oa, .inl (cL G, 1, .inr (.inl of)))]) H0) 0 0 (va_A (xW G a v mo ki pr df co bi g9 lr bf tn ln nx ct hv v0 k0 v1 k1 ++ [(oa, .inl (cL G, 1, .inr (.inl of)))]) H0.size) := by
  refine enterH (cc := cL_saveState) (maxL := 4) (ret := some .int) (own := RL) (lv := [(0, .ref (a 0)), (1, .int (nI (0))), (2, .ref oa)]) (by decide) rfl rfl rfl (Nat.le_of_ble_eq_true rfl) ?_
  intro pg ev s m below meth c hx hb hr hts hown hlocks hml htab hH hC ls hl
  subst hH
  have hLo := va_freeB hB0 hC.2.2.2.1
  have hD := hB0.self (sz := s.heap.size)
  have hS : va_S (va_A (xW G a v mo ki pr df co bi g9 lr bf tn ln nx ct hv v0 k0 v1 k1 ++ [(oa, .inl (cL G, 1, .inr (.inl of)))]) s.heap.size) s.heap s.heap [] := va_S.rf
  unfold qMi
  generalize hAe : va_A (xW G a v mo ki pr df co bi g9 lr bf tn ln nx ct hv v0 k0 v1 k1 ++ [(oa, .inl (cL G, 1, .inr (.inl of)))]) s.heap.size = A at hD hLo hS ⊢
  have hA : ∀ q, s.heap.size ≤ q → A q := fun q h => by rw [← hAe]; exact Or.inr h
  generalize ([] : List Loc) = locs at hS ⊢
  have hP := hP0
  refine lv_aload_n hx hb dL_saveState_0 rfl (lv_at hl 2 rfl) ?_
  refine lv_iconst (v := nI (0)) hx hb dL_saveState_1 (by decide) ?_
  refine lv_aload_n hx hb dL_saveState_2 rfl (lv_at hl 0 rfl) ?_
  refine lv_iload_n hx hb dL_saveState_3 rfl (lv_at hl 1 rfl) ?_
  refine kPreI (va_runV (As := [.int (nI (0))]) (rest := [.int (nI (0)), .ref oa]) ⟨hx, hb, hml, hown, hts⟩ (c_X8_saveState_0 a v mo ki pr df co bi g9 lr bf tn ln nx ct hv v0 k0 v1 k1 (pre_P hP) ((pre_D hD).weaken (fun _ _ _ h => hLo _ h))) (cwV 1 hts gL_saveState_X8_saveState rfl rfl rfl (by decide +kernel) ⟨Nat.le_of_ble_eq_true rfl, Nat.le_of_ble_eq_true rfl⟩) (preV hC hS hLo hP (ci := 7) (q0 := 0) rfl rfl) rfl rfl hl.1 rfl (lv_room (Nat.le_of_ble_eq_true rfl)) dL_saveState_4 ⟨Nat.zero_le _, Nat.zero_le _⟩) hP hD hS hA (fun _ => rfl) (fun r_3 u_1 H locs q_2 hP hD hS => ?_)
  have hP : PP G (xW G a v mo ki pr df co bi g9 lr bf tn ln nx ct hv v 1 v1 k1 ++ [(oa, .inl (cL G, 1, .inr (.inl of)))]) H := hP
  have hD : va_D A (xW G a v mo ki pr df co bi g9 lr bf tn ln nx ct hv v 1 v1 k1 ++ [(oa, .inl (cL G, 1, .inr (.inl of)))]) := hD
  refine topE (v' := nI (v.2.2.2.2.2.2.2.1)) (q_2) ?_
  refine lv_i2l (v := (nI (v.2.2.2.2.2.2.2.1)).toInt64) hx hb dL_saveState_7 (rfl) ?_
  refine gOut hx hb hC.K hP hD hS dL_saveState_8 (fun H locs hP hD hS => ?_)
  have hP : PP G (xW G a v mo ki pr df co bi g9 lr bf tn ln nx ct hv v 1 v1 k1 ++ [(oa, .inl (cL G, 1, .inr (.inl (vp_updL of 0 ((nI (v.2.2.2.2.2.2.2.1)).toInt64)))))]) H := hP
  have hD : va_D A (xW G a v mo ki pr df co bi g9 lr bf tn ln nx ct hv v 1 v1 k1 ++ [(oa, .inl (cL G, 1, .inr (.inl (vp_updL of 0 ((nI (v.2.2.2.2.2.2.2.1)).toInt64)))))]) := hD
  refine lv_goto (tgt := 15) hx hb dL_saveState_9 (by decide) ?_
  refine lv_iconst (v := nI (0)) hx hb dL_saveState_15 (by decide) ?_
  exact xMi (G := G) (post := (fun (r : Int32) (u : Unit) => r = nI 0)) (w1 := (fun (u : Unit) => xW G a v mo ki pr df co bi g9 lr bf tn ln nx ct hv v 1 v1 k1 ++ [(oa, .inl (cL G, 1, .inr (.inl (vp_updL of 0 ((nI (v.2.2.2.2.2.2.2.1)).toInt64)))))])) (()) hx hb hr hlocks hP hS (by exact rfl) (by exact rfl) dL_saveState_16

set_option maxHeartbeats 4000000 in
set_option maxRecDepth 100000 in
theorem c_L_loadState_s0 {l : Launch} {G : GT} {H0 : Heap} (a : Nat → Nat) (v : SVT) (mo ki : Nat → Nat) (pr df : Nat → Int) (co : Int32) (bi : Nat) (g9 : Nat → Int32) (lr : Nat) (bf : Nat → Int) (tn : Nat → Nat) (ln nx ct : Nat) (hv : Nat → SVT) (v0 : SVT) (k0 : Nat) (v1 : SVT) (k1 : Nat) (oa : Nat) (of : Nat → Int64) (hnx : nx < 6) (hct : ct ≤ 6) (hk : k0 = 1) (hP0 : PP G (xW G a v mo ki pr df co bi g9 lr bf tn ln nx ct hv v0 k0 v1 k1 ++ [(oa, .inl (cL G, 1, .inr (.inl of)))]) H0) (hB0 : va_D (lo G) (xW G a v mo ki pr df co bi g9 lr bf tn ln nx ct hv v0 k0 v1 k1 ++ [(oa, .inl (cL G, 1, .inr (.inl of)))])) : Met l yL_loadState wsL_loadState ({ frames := 5, cells := 0, slots := 0, locals := 110 } : Room) (pcG G [.ref (a 0), .int (nI (0)), .ref oa] H0) (qMi G (fun (r : Int32) (u : Unit) => r = nI 0) (fun (u : Unit) => xW G a v0 mo ki pr df co bi g9 lr bf tn ln ((nx + 1) % 6) (min (ct + 1) 6) (va_up hv nx v) v0 k0 v1 k1 ++ [(oa, .inl (cL G, 1, .inr (.inl (vp_updL of 0 ((nI (v0.2.2.2.2.2.2.2.1)).toInt64)))))]) (xW G a v mo ki pr df co bi g9 lr bf tn ln nx ct hv v0 k0 v1 k1 ++ [(oa, .inl (cL G, 1, .inr (.inl of)))]) H0) 0 0 (va_A (xW G a v mo ki pr df co bi g9 lr bf tn ln nx ct hv v0 k0 v1 k1 ++ [(oa, .inl (cL G, 1, .inr (.inl of)))]) H0.size) := by
  refine enterH (cc := cL_loadState) (maxL := 4) (ret := some .int) (own := RL) (lv := [(0, .ref (a 0)), (1, .int (nI (0))), (2, .ref oa)]) (by decide) rfl rfl rfl (Nat.le_of_ble_eq_true rfl) ?_
  intro pg ev s m below meth c hx hb hr hts hown hlocks hml htab hH hC ls hl
  subst hH
  have hLo := va_freeB hB0 hC.2.2.2.1
  have hD := hB0.self (sz := s.heap.size)
  have hS : va_S (va_A (xW G a v mo ki pr df co bi g9 lr bf tn ln nx ct hv v0 k0 v1 k1 ++ [(oa, .inl (cL G, 1, .inr (.inl of)))]) s.heap.size) s.heap s.heap [] := va_S.rf
  unfold qMi
  generalize hAe : va_A (xW G a v mo ki pr df co bi g9 lr bf tn ln nx ct hv v0 k0 v1 k1 ++ [(oa, .inl (cL G, 1, .inr (.inl of)))]) s.heap.size = A at hD hLo hS ⊢
  have hA : ∀ q, s.heap.size ≤ q → A q := fun q h => by rw [← hAe]; exact Or.inr h
  generalize ([] : List Loc) = locs at hS ⊢
  have hP := hP0
  refine lv_aload_n hx hb dL_loadState_0 rfl (lv_at hl 2 rfl) ?_
  refine lv_iconst (v := nI (0)) hx hb dL_loadState_1 (by decide) ?_
  refine lv_aload_n hx hb dL_loadState_2 rfl (lv_at hl 0 rfl) ?_
  refine lv_iload_n hx hb dL_loadState_3 rfl (lv_at hl 1 rfl) ?_
  refine kPreI (va_runV (As := [.int (nI (0))]) (rest := [.int (nI (0)), .ref oa]) ⟨hx, hb, hml, hown, hts⟩ (c_X8_loadState_0 a v mo ki pr df co bi g9 lr bf tn ln nx ct hv v0 k0 v1 k1 (by first | assumption | omega) (by first | assumption | omega) (by first | assumption | omega) (pre_P hP) ((pre_D hD).weaken (fun _ _ _ h => hLo _ h))) (cwV 1 hts gL_loadState_X8_loadState rfl rfl rfl (by decide +kernel) ⟨Nat.le_of_ble_eq_true rfl, Nat.le_of_ble_eq_true rfl⟩) (preV hC hS hLo hP (ci := 7) (q0 := 0) rfl rfl) rfl rfl hl.1 rfl (lv_room (Nat.le_of_ble_eq_true rfl)) dL_loadState_4 ⟨Nat.zero_le _, Nat.zero_le _⟩) hP hD hS hA (fun _ => rfl) (fun r_3 u_1 H locs q_2 hP hD hS => ?_)
  have hP : PP G (xW G a v0 mo ki pr df co bi g9 lr bf tn ln ((nx + 1) % 6) (min (ct + 1) 6) (va_up hv nx v) v0 k0 v1 k1 ++ [(oa, .inl (cL G, 1, .inr (.inl of)))]) H := hP
  have hD : va_D A (xW G a v0 mo ki pr df co bi g9 lr bf tn ln ((nx + 1) % 6) (min (ct + 1) 6) (va_up hv nx v) v0 k0 v1 k1 ++ [(oa, .inl (cL G, 1, .inr (.inl of)))]) := hD
  refine topE (v' := nI (v0.2.2.2.2.2.2.2.1)) (q_2) ?_
  refine lv_i2l (v := (nI (v0.2.2.2.2.2.2.2.1)).toInt64) hx hb dL_loadState_7 (rfl) ?_
  refine gOut hx hb hC.K hP hD hS dL_loadState_8 (fun H locs hP hD hS => ?_)
  have hP : PP G (xW G a v0 mo ki pr df co bi g9 lr bf tn ln ((nx + 1) % 6) (min (ct + 1) 6) (va_up hv nx v) v0 k0 v1 k1 ++ [(oa, .inl (cL G, 1, .inr (.inl (vp_updL of 0 ((nI (v0.2.2.2.2.2.2.2.1)).toInt64)))))]) H := hP
  have hD : va_D A (xW G a v0 mo ki pr df co bi g9 lr bf tn ln ((nx + 1) % 6) (min (ct + 1) 6) (va_up hv nx v) v0 k0 v1 k1 ++ [(oa, .inl (cL G, 1, .inr (.inl (vp_updL of 0 ((nI (v0.2.2.2.2.2.2.2.1)).toInt64)))))]) := hD
  refine lv_goto (tgt := 18) hx hb dL_loadState_9 (by decide) ?_
  refine lv_iconst (v := nI (0)) hx hb dL_loadState_18 (by decide) ?_
  exact xMi (G := G) (post := (fun (r : Int32) (u : Unit) => r = nI 0)) (w1 := (fun (u : Unit) => xW G a v0 mo ki pr df co bi g9 lr bf tn ln ((nx + 1) % 6) (min (ct + 1) 6) (va_up hv nx v) v0 k0 v1 k1 ++ [(oa, .inl (cL G, 1, .inr (.inl (vp_updL of 0 ((nI (v0.2.2.2.2.2.2.2.1)).toInt64)))))])) (()) hx hb hr hlocks hP hS (by exact rfl) (by exact rfl) dL_loadState_19

set_option maxHeartbeats 4000000 in
set_option maxRecDepth 100000 in
theorem c_L_saveState_s1 {l : Launch} {G : GT} {H0 : Heap} (a : Nat → Nat) (v : SVT) (mo ki : Nat → Nat) (pr df : Nat → Int) (co : Int32) (bi : Nat) (g9 : Nat → Int32) (lr : Nat) (bf : Nat → Int) (tn : Nat → Nat) (ln nx ct : Nat) (hv : Nat → SVT) (v0 : SVT) (k0 : Nat) (v1 : SVT) (k1 : Nat) (oa : Nat) (of : Nat → Int64)  (hP0 : PP G (xW G a v mo ki pr df co bi g9 lr bf tn ln nx ct hv v0 k0 v1 k1 ++ [(oa, .inl (cL G, 1, .inr (.inl of)))]) H0) (hB0 : va_D (lo G) (xW G a v mo ki pr df co bi g9 lr bf tn ln nx ct hv v0 k0 v1 k1 ++ [(oa, .inl (cL G, 1, .inr (.inl of)))])) : Met l yL_saveState wsL_saveState ({ frames := 4, cells := 0, slots := 0, locals := 88 } : Room) (pcG G [.ref (a 0), .int (nI (1)), .ref oa] H0) (qMi G (fun (r : Int32) (u : Unit) => r = nI 0) (fun (u : Unit) => xW G a v mo ki pr df co bi g9 lr bf tn ln nx ct hv v0 k0 v 1 ++ [(oa, .inl (cL G, 1, .inr (.inl (vp_updL of 0 ((nI (v.2.2.2.2.2.2.2.1)).toInt64)))))]) (xW G a v mo ki pr df co bi g9 lr bf tn ln nx ct hv v0 k0 v1 k1 ++ [(oa, .inl (cL G, 1, .inr (.inl of)))]) H0) 0 0 (va_A (xW G a v mo ki pr df co bi g9 lr bf tn ln nx ct hv v0 k0 v1 k1 ++ [(oa, .inl (cL G, 1, .inr (.inl of)))]) H0.size) := by
  refine enterH (cc := cL_saveState) (maxL := 4) (ret := some .int) (own := RL) (lv := [(0, .ref (a 0)), (1, .int (nI (1))), (2, .ref oa)]) (by decide) rfl rfl rfl (Nat.le_of_ble_eq_true rfl) ?_
  intro pg ev s m below meth c hx hb hr hts hown hlocks hml htab hH hC ls hl
  subst hH
  have hLo := va_freeB hB0 hC.2.2.2.1
  have hD := hB0.self (sz := s.heap.size)
  have hS : va_S (va_A (xW G a v mo ki pr df co bi g9 lr bf tn ln nx ct hv v0 k0 v1 k1 ++ [(oa, .inl (cL G, 1, .inr (.inl of)))]) s.heap.size) s.heap s.heap [] := va_S.rf
  unfold qMi
  generalize hAe : va_A (xW G a v mo ki pr df co bi g9 lr bf tn ln nx ct hv v0 k0 v1 k1 ++ [(oa, .inl (cL G, 1, .inr (.inl of)))]) s.heap.size = A at hD hLo hS ⊢
  have hA : ∀ q, s.heap.size ≤ q → A q := fun q h => by rw [← hAe]; exact Or.inr h
  generalize ([] : List Loc) = locs at hS ⊢
  have hP := hP0
  refine lv_aload_n hx hb dL_saveState_0 rfl (lv_at hl 2 rfl) ?_
  refine lv_iconst (v := nI (0)) hx hb dL_saveState_1 (by decide) ?_
  refine lv_aload_n hx hb dL_saveState_2 rfl (lv_at hl 0 rfl) ?_
  refine lv_iload_n hx hb dL_saveState_3 rfl (lv_at hl 1 rfl) ?_
  refine kPreI (va_runV (As := [.int (nI (1))]) (rest := [.int (nI (0)), .ref oa]) ⟨hx, hb, hml, hown, hts⟩ (c_X8_saveState_1 a v mo ki pr df co bi g9 lr bf tn ln nx ct hv v0 k0 v1 k1 (pre_P hP) ((pre_D hD).weaken (fun _ _ _ h => hLo _ h))) (cwV 1 hts gL_saveState_X8_saveState rfl rfl rfl (by decide +kernel) ⟨Nat.le_of_ble_eq_true rfl, Nat.le_of_ble_eq_true rfl⟩) (preV hC hS hLo hP (ci := 7) (q0 := 0) rfl rfl) rfl rfl hl.1 rfl (lv_room (Nat.le_of_ble_eq_true rfl)) dL_saveState_4 ⟨Nat.zero_le _, Nat.zero_le _⟩) hP hD hS hA (fun _ => rfl) (fun r_3 u_1 H locs q_2 hP hD hS => ?_)
  have hP : PP G (xW G a v mo ki pr df co bi g9 lr bf tn ln nx ct hv v0 k0 v 1 ++ [(oa, .inl (cL G, 1, .inr (.inl of)))]) H := hP
  have hD : va_D A (xW G a v mo ki pr df co bi g9 lr bf tn ln nx ct hv v0 k0 v 1 ++ [(oa, .inl (cL G, 1, .inr (.inl of)))]) := hD
  refine topE (v' := nI (v.2.2.2.2.2.2.2.1)) (q_2) ?_
  refine lv_i2l (v := (nI (v.2.2.2.2.2.2.2.1)).toInt64) hx hb dL_saveState_7 (rfl) ?_
  refine gOut hx hb hC.K hP hD hS dL_saveState_8 (fun H locs hP hD hS => ?_)
  have hP : PP G (xW G a v mo ki pr df co bi g9 lr bf tn ln nx ct hv v0 k0 v 1 ++ [(oa, .inl (cL G, 1, .inr (.inl (vp_updL of 0 ((nI (v.2.2.2.2.2.2.2.1)).toInt64)))))]) H := hP
  have hD : va_D A (xW G a v mo ki pr df co bi g9 lr bf tn ln nx ct hv v0 k0 v 1 ++ [(oa, .inl (cL G, 1, .inr (.inl (vp_updL of 0 ((nI (v.2.2.2.2.2.2.2.1)).toInt64)))))]) := hD
  refine lv_goto (tgt := 15) hx hb dL_saveState_9 (by decide) ?_
  refine lv_iconst (v := nI (0)) hx hb dL_saveState_15 (by decide) ?_
  exact xMi (G := G) (post := (fun (r : Int32) (u : Unit) => r = nI 0)) (w1 := (fun (u : Unit) => xW G a v mo ki pr df co bi g9 lr bf tn ln nx ct hv v0 k0 v 1 ++ [(oa, .inl (cL G, 1, .inr (.inl (vp_updL of 0 ((nI (v.2.2.2.2.2.2.2.1)).toInt64)))))])) (()) hx hb hr hlocks hP hS (by exact rfl) (by exact rfl) dL_saveState_16

set_option maxHeartbeats 4000000 in
set_option maxRecDepth 100000 in
theorem c_L_loadState_s1 {l : Launch} {G : GT} {H0 : Heap} (a : Nat → Nat) (v : SVT) (mo ki : Nat → Nat) (pr df : Nat → Int) (co : Int32) (bi : Nat) (g9 : Nat → Int32) (lr : Nat) (bf : Nat → Int) (tn : Nat → Nat) (ln nx ct : Nat) (hv : Nat → SVT) (v0 : SVT) (k0 : Nat) (v1 : SVT) (k1 : Nat) (oa : Nat) (of : Nat → Int64) (hnx : nx < 6) (hct : ct ≤ 6) (hk : k1 = 1) (hP0 : PP G (xW G a v mo ki pr df co bi g9 lr bf tn ln nx ct hv v0 k0 v1 k1 ++ [(oa, .inl (cL G, 1, .inr (.inl of)))]) H0) (hB0 : va_D (lo G) (xW G a v mo ki pr df co bi g9 lr bf tn ln nx ct hv v0 k0 v1 k1 ++ [(oa, .inl (cL G, 1, .inr (.inl of)))])) : Met l yL_loadState wsL_loadState ({ frames := 5, cells := 0, slots := 0, locals := 110 } : Room) (pcG G [.ref (a 0), .int (nI (1)), .ref oa] H0) (qMi G (fun (r : Int32) (u : Unit) => r = nI 0) (fun (u : Unit) => xW G a v1 mo ki pr df co bi g9 lr bf tn ln ((nx + 1) % 6) (min (ct + 1) 6) (va_up hv nx v) v0 k0 v1 k1 ++ [(oa, .inl (cL G, 1, .inr (.inl (vp_updL of 0 ((nI (v1.2.2.2.2.2.2.2.1)).toInt64)))))]) (xW G a v mo ki pr df co bi g9 lr bf tn ln nx ct hv v0 k0 v1 k1 ++ [(oa, .inl (cL G, 1, .inr (.inl of)))]) H0) 0 0 (va_A (xW G a v mo ki pr df co bi g9 lr bf tn ln nx ct hv v0 k0 v1 k1 ++ [(oa, .inl (cL G, 1, .inr (.inl of)))]) H0.size) := by
  refine enterH (cc := cL_loadState) (maxL := 4) (ret := some .int) (own := RL) (lv := [(0, .ref (a 0)), (1, .int (nI (1))), (2, .ref oa)]) (by decide) rfl rfl rfl (Nat.le_of_ble_eq_true rfl) ?_
  intro pg ev s m below meth c hx hb hr hts hown hlocks hml htab hH hC ls hl
  subst hH
  have hLo := va_freeB hB0 hC.2.2.2.1
  have hD := hB0.self (sz := s.heap.size)
  have hS : va_S (va_A (xW G a v mo ki pr df co bi g9 lr bf tn ln nx ct hv v0 k0 v1 k1 ++ [(oa, .inl (cL G, 1, .inr (.inl of)))]) s.heap.size) s.heap s.heap [] := va_S.rf
  unfold qMi
  generalize hAe : va_A (xW G a v mo ki pr df co bi g9 lr bf tn ln nx ct hv v0 k0 v1 k1 ++ [(oa, .inl (cL G, 1, .inr (.inl of)))]) s.heap.size = A at hD hLo hS ⊢
  have hA : ∀ q, s.heap.size ≤ q → A q := fun q h => by rw [← hAe]; exact Or.inr h
  generalize ([] : List Loc) = locs at hS ⊢
  have hP := hP0
  refine lv_aload_n hx hb dL_loadState_0 rfl (lv_at hl 2 rfl) ?_
  refine lv_iconst (v := nI (0)) hx hb dL_loadState_1 (by decide) ?_
  refine lv_aload_n hx hb dL_loadState_2 rfl (lv_at hl 0 rfl) ?_
  refine lv_iload_n hx hb dL_loadState_3 rfl (lv_at hl 1 rfl) ?_
  refine kPreI (va_runV (As := [.int (nI (1))]) (rest := [.int (nI (0)), .ref oa]) ⟨hx, hb, hml, hown, hts⟩ (c_X8_loadState_1 a v mo ki pr df co bi g9 lr bf tn ln nx ct hv v0 k0 v1 k1 (by first | assumption | omega) (by first | assumption | omega) (by first | assumption | omega) (pre_P hP) ((pre_D hD).weaken (fun _ _ _ h => hLo _ h))) (cwV 1 hts gL_loadState_X8_loadState rfl rfl rfl (by decide +kernel) ⟨Nat.le_of_ble_eq_true rfl, Nat.le_of_ble_eq_true rfl⟩) (preV hC hS hLo hP (ci := 7) (q0 := 0) rfl rfl) rfl rfl hl.1 rfl (lv_room (Nat.le_of_ble_eq_true rfl)) dL_loadState_4 ⟨Nat.zero_le _, Nat.zero_le _⟩) hP hD hS hA (fun _ => rfl) (fun r_3 u_1 H locs q_2 hP hD hS => ?_)
  have hP : PP G (xW G a v1 mo ki pr df co bi g9 lr bf tn ln ((nx + 1) % 6) (min (ct + 1) 6) (va_up hv nx v) v0 k0 v1 k1 ++ [(oa, .inl (cL G, 1, .inr (.inl of)))]) H := hP
  have hD : va_D A (xW G a v1 mo ki pr df co bi g9 lr bf tn ln ((nx + 1) % 6) (min (ct + 1) 6) (va_up hv nx v) v0 k0 v1 k1 ++ [(oa, .inl (cL G, 1, .inr (.inl of)))]) := hD
  refine topE (v' := nI (v1.2.2.2.2.2.2.2.1)) (q_2) ?_
  refine lv_i2l (v := (nI (v1.2.2.2.2.2.2.2.1)).toInt64) hx hb dL_loadState_7 (rfl) ?_
  refine gOut hx hb hC.K hP hD hS dL_loadState_8 (fun H locs hP hD hS => ?_)
  have hP : PP G (xW G a v1 mo ki pr df co bi g9 lr bf tn ln ((nx + 1) % 6) (min (ct + 1) 6) (va_up hv nx v) v0 k0 v1 k1 ++ [(oa, .inl (cL G, 1, .inr (.inl (vp_updL of 0 ((nI (v1.2.2.2.2.2.2.2.1)).toInt64)))))]) H := hP
  have hD : va_D A (xW G a v1 mo ki pr df co bi g9 lr bf tn ln ((nx + 1) % 6) (min (ct + 1) 6) (va_up hv nx v) v0 k0 v1 k1 ++ [(oa, .inl (cL G, 1, .inr (.inl (vp_updL of 0 ((nI (v1.2.2.2.2.2.2.2.1)).toInt64)))))]) := hD
  refine lv_goto (tgt := 18) hx hb dL_loadState_9 (by decide) ?_
  refine lv_iconst (v := nI (0)) hx hb dL_loadState_18 (by decide) ?_
  exact xMi (G := G) (post := (fun (r : Int32) (u : Unit) => r = nI 0)) (w1 := (fun (u : Unit) => xW G a v1 mo ki pr df co bi g9 lr bf tn ln ((nx + 1) % 6) (min (ct + 1) 6) (va_up hv nx v) v0 k0 v1 k1 ++ [(oa, .inl (cL G, 1, .inr (.inl (vp_updL of 0 ((nI (v1.2.2.2.2.2.2.2.1)).toInt64)))))])) (()) hx hb hr hlocks hP hS (by exact rfl) (by exact rfl) dL_loadState_19

set_option maxHeartbeats 4000000 in
set_option maxRecDepth 100000 in
theorem c_L_runText {l : Launch} {G : GT} {H0 : Heap} (a : Nat → Nat) (v : SVT) (mo ki : Nat → Nat) (pr df : Nat → Int) (co : Int32) (bi : Nat) (g9 : Nat → Int32) (lr : Nat) (bf : Nat → Int) (tn : Nat → Nat) (ln nx ct : Nat) (hv : Nat → SVT) (v0 : SVT) (k0 : Nat) (v1 : SVT) (k1 : Nat) (oa : Nat) (of : Nat → Int64) (ss : Nat → Int) (k o : Nat → Nat) (hnx : nx < 6) (hct : ct ≤ 6) (htn : T128 tn) (hln : ln ≤ 80) (hvo : v = vOf ss k o) (hM : MR ss) (hKO : KO ss k o) (hdf : D15 df) (hmo : M25 mo) (hok : FE tn ln = -1) (hP0 : PP G (xW G a v mo ki pr df co bi g9 lr bf tn ln nx ct hv v0 k0 v1 k1 ++ [(oa, .inl (cL G, 1, .inr (.inl of)))]) H0) (hB0 : va_D (lo G) (xW G a v mo ki pr df co bi g9 lr bf tn ln nx ct hv v0 k0 v1 k1 ++ [(oa, .inl (cL G, 1, .inr (.inl of)))])) : Met l yL_runText wsL_runText ({ frames := 7, cells := 0, slots := 0, locals := 166 } : Room) (pcG G [.ref (a 0), .ref oa] H0) (qMi G (fun (r : Int32) (u : SVT × (Nat → Nat) × (Nat → Nat) × (Nat → Nat) × (Nat → Nat) × (Nat → Int) × (Nat → Int) × Int32 × Nat × (Nat → Int)) => u.1 = vOf (rC tn ln (ln + 1) 0 ss 0).1 u.2.1 u.2.2.1 ∧ KO (rC tn ln (ln + 1) 0 ss 0).1 u.2.1 u.2.2.1 ∧ M25 u.2.2.2.1 ∧ D15 u.2.2.2.2.2.2.1 ∧ r = nI 0) (fun (u : SVT × (Nat → Nat) × (Nat → Nat) × (Nat → Nat) × (Nat → Nat) × (Nat → Int) × (Nat → Int) × Int32 × Nat × (Nat → Int)) => xW G a u.1 u.2.2.2.1 u.2.2.2.2.1 u.2.2.2.2.2.1 u.2.2.2.2.2.2.1 u.2.2.2.2.2.2.2.1 u.2.2.2.2.2.2.2.2.1 g9 lr u.2.2.2.2.2.2.2.2.2 tn 0 ((nx + 1) % 6) (min (ct + 1) 6) (va_up hv nx v) v0 k0 v1 k1 ++ [(oa, .inl (cL G, 1, .inr (.inl (vp_updL of 0 ((nI ((rC tn ln (ln + 1) 0 ss 0).2)).toInt64)))))]) (xW G a v mo ki pr df co bi g9 lr bf tn ln nx ct hv v0 k0 v1 k1 ++ [(oa, .inl (cL G, 1, .inr (.inl of)))]) H0) 0 0 (va_A (xW G a v mo ki pr df co bi g9 lr bf tn ln nx ct hv v0 k0 v1 k1 ++ [(oa, .inl (cL G, 1, .inr (.inl of)))]) H0.size) := by
  refine enterH (cc := cL_runText) (maxL := 3) (ret := some .int) (own := RL) (lv := [(0, .ref (a 0)), (1, .ref oa)]) (by decide) rfl rfl rfl (Nat.le_of_ble_eq_true rfl) ?_
  intro pg ev s m below meth c hx hb hr hts hown hlocks hml htab hH hC ls hl
  subst hH
  have hLo := va_freeB hB0 hC.2.2.2.1
  have hD := hB0.self (sz := s.heap.size)
  have hS : va_S (va_A (xW G a v mo ki pr df co bi g9 lr bf tn ln nx ct hv v0 k0 v1 k1 ++ [(oa, .inl (cL G, 1, .inr (.inl of)))]) s.heap.size) s.heap s.heap [] := va_S.rf
  unfold qMi
  generalize hAe : va_A (xW G a v mo ki pr df co bi g9 lr bf tn ln nx ct hv v0 k0 v1 k1 ++ [(oa, .inl (cL G, 1, .inr (.inl of)))]) s.heap.size = A at hD hLo hS ⊢
  have hA : ∀ q, s.heap.size ≤ q → A q := fun q h => by rw [← hAe]; exact Or.inr h
  generalize ([] : List Loc) = locs at hS ⊢
  have hP := hP0
  refine lv_aload_n hx hb dL_runText_0 rfl (lv_at hl 1 rfl) ?_
  refine lv_iconst (v := nI (0)) hx hb dL_runText_1 (by decide) ?_
  refine lv_aload_n hx hb dL_runText_2 rfl (lv_at hl 0 rfl) ?_
  refine kPreI (va_runV (As := []) (rest := [.int (nI (0)), .ref oa]) ⟨hx, hb, hml, hown, hts⟩ (c_X8_runText a v mo ki pr df co bi g9 lr bf tn ln nx ct hv v0 k0 v1 k1 ss k o (by first | assumption | omega) (by first | assumption | omega) (by first | assumption | omega) (by first | assumption | omega) (by first | assumption | omega) (by first | assumption | omega) (by first | assumption | omega) (by first | assumption | omega) (by first | assumption | omega) (by first | assumption | omega) (pre_P hP) ((pre_D hD).weaken (fun _ _ _ h => hLo _ h))) (cwV 0 hts gL_runText_X8_runText rfl rfl rfl (by decide +kernel) ⟨Nat.le_of_ble_eq_true rfl, Nat.le_of_ble_eq_true rfl⟩) (preV hC hS hLo hP (ci := 7) (q0 := 0) rfl rfl) rfl rfl hl.1 rfl (lv_room (Nat.le_of_ble_eq_true rfl)) dL_runText_3 ⟨Nat.zero_le _, Nat.zero_le _⟩) hP hD hS hA (fun _ => rfl) (fun r_3 u_1 H locs q_2 hP hD hS => ?_)
  have hP : PP G (xW G a u_1.1 u_1.2.2.2.1 u_1.2.2.2.2.1 u_1.2.2.2.2.2.1 u_1.2.2.2.2.2.2.1 u_1.2.2.2.2.2.2.2.1 u_1.2.2.2.2.2.2.2.2.1 g9 lr u_1.2.2.2.2.2.2.2.2.2 tn 0 ((nx + 1) % 6) (min (ct + 1) 6) (va_up hv nx v) v0 k0 v1 k1 ++ [(oa, .inl (cL G, 1, .inr (.inl of)))]) H := hP
  have hD : va_D A (xW G a u_1.1 u_1.2.2.2.1 u_1.2.2.2.2.1 u_1.2.2.2.2.2.1 u_1.2.2.2.2.2.2.1 u_1.2.2.2.2.2.2.2.1 u_1.2.2.2.2.2.2.2.2.1 g9 lr u_1.2.2.2.2.2.2.2.2.2 tn 0 ((nx + 1) % 6) (min (ct + 1) 6) (va_up hv nx v) v0 k0 v1 k1 ++ [(oa, .inl (cL G, 1, .inr (.inl of)))]) := hD
  refine topE (v' := nI ((rC tn ln (ln + 1) 0 ss 0).2)) (q_2.2.2.2.2) ?_
  refine lv_i2l (v := (nI ((rC tn ln (ln + 1) 0 ss 0).2)).toInt64) hx hb dL_runText_6 (rfl) ?_
  refine gOut hx hb hC.K hP hD hS dL_runText_7 (fun H locs hP hD hS => ?_)
  have hP : PP G (xW G a u_1.1 u_1.2.2.2.1 u_1.2.2.2.2.1 u_1.2.2.2.2.2.1 u_1.2.2.2.2.2.2.1 u_1.2.2.2.2.2.2.2.1 u_1.2.2.2.2.2.2.2.2.1 g9 lr u_1.2.2.2.2.2.2.2.2.2 tn 0 ((nx + 1) % 6) (min (ct + 1) 6) (va_up hv nx v) v0 k0 v1 k1 ++ [(oa, .inl (cL G, 1, .inr (.inl (vp_updL of 0 ((nI ((rC tn ln (ln + 1) 0 ss 0).2)).toInt64)))))]) H := hP
  have hD : va_D A (xW G a u_1.1 u_1.2.2.2.1 u_1.2.2.2.2.1 u_1.2.2.2.2.2.1 u_1.2.2.2.2.2.2.1 u_1.2.2.2.2.2.2.2.1 u_1.2.2.2.2.2.2.2.2.1 g9 lr u_1.2.2.2.2.2.2.2.2.2 tn 0 ((nx + 1) % 6) (min (ct + 1) 6) (va_up hv nx v) v0 k0 v1 k1 ++ [(oa, .inl (cL G, 1, .inr (.inl (vp_updL of 0 ((nI ((rC tn ln (ln + 1) 0 ss 0).2)).toInt64)))))]) := hD
  refine lv_goto (tgt := 14) hx hb dL_runText_8 (by decide) ?_
  refine lv_iconst (v := nI (0)) hx hb dL_runText_14 (by decide) ?_
  exact xMi (G := G) (post := (fun (r : Int32) (u : SVT × (Nat → Nat) × (Nat → Nat) × (Nat → Nat) × (Nat → Nat) × (Nat → Int) × (Nat → Int) × Int32 × Nat × (Nat → Int)) => u.1 = vOf (rC tn ln (ln + 1) 0 ss 0).1 u.2.1 u.2.2.1 ∧ KO (rC tn ln (ln + 1) 0 ss 0).1 u.2.1 u.2.2.1 ∧ M25 u.2.2.2.1 ∧ D15 u.2.2.2.2.2.2.1 ∧ r = nI 0)) (w1 := (fun (u : SVT × (Nat → Nat) × (Nat → Nat) × (Nat → Nat) × (Nat → Nat) × (Nat → Int) × (Nat → Int) × Int32 × Nat × (Nat → Int)) => xW G a u.1 u.2.2.2.1 u.2.2.2.2.1 u.2.2.2.2.2.1 u.2.2.2.2.2.2.1 u.2.2.2.2.2.2.2.1 u.2.2.2.2.2.2.2.2.1 g9 lr u.2.2.2.2.2.2.2.2.2 tn 0 ((nx + 1) % 6) (min (ct + 1) 6) (va_up hv nx v) v0 k0 v1 k1 ++ [(oa, .inl (cL G, 1, .inr (.inl (vp_updL of 0 ((nI ((rC tn ln (ln + 1) 0 ss 0).2)).toInt64)))))])) (u_1) hx hb hr hlocks hP hS (by exact (by have q9 := q_2; exact ⟨q9.1, q9.2.1, q9.2.2.1, q9.2.2.2.1, rfl⟩)) (by exact rfl) dL_runText_15
