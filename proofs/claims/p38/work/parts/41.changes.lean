set_option maxHeartbeats 4000000 in
set_option maxRecDepth 100000 in
theorem c_L_chg_0 {l : Launch} {G : GT} {H0 : Heap} (a : Nat → Nat) (v : SVT) (mo ki : Nat → Nat) (pr df : Nat → Int) (co : Int32) (bi : Nat) (g9 : Nat → Int32) (lr : Nat) (bf : Nat → Int) (tn : Nat → Nat) (ln nx ct : Nat) (hv : Nat → SVT) (v0 : SVT) (k0 : Nat) (v1 : SVT) (k1 : Nat) (oa : Nat) (of : Nat → Int32) (p : Nat) (w : Int) (c9 : Int32) (hnx : nx < 6) (hct : ct ≤ 6) (hp : p < 64) (hw : 0 ≤ w ∧ w ≤ 15) (hfl : l.stackTraces = false) (hP0 : PP G (xW G a v mo ki pr df co bi g9 lr bf tn ln nx ct hv v0 k0 v1 k1 ++ [(oa, .inl (cI G, 1, .inl of))]) H0) (hB0 : va_D (lo G) (xW G a v mo ki pr df co bi g9 lr bf tn ln nx ct hv v0 k0 v1 k1 ++ [(oa, .inl (cI G, 1, .inl of))])) : Met l yL_changes wsL_changes ({ frames := 5, cells := 0, slots := 0, locals := 110 } : Room) (pcX G [.ref (a 0), .int (nI (0)), .int (nI (p)), .int (iI (w)), .int (c9), .ref oa] H0) (qMi G (fun (r : Int32) (u : Unit) => r = nI 0) (fun (u : Unit) => xW G a (va_up v.1 p w, v.2.1, v.2.2.1, v.2.2.2.1, v.2.2.2.2.1, v.2.2.2.2.2.1, v.2.2.2.2.2.2.1, v.2.2.2.2.2.2.2.1, v.2.2.2.2.2.2.2.2.1, v.2.2.2.2.2.2.2.2.2) mo ki pr df co bi g9 lr bf tn ln ((nx + 1) % 6) (min (ct + 1) 6) (va_up hv nx v) v0 k0 v1 k1 ++ [(oa, .inl (cI G, 1, .inl (upd of 0 (iI (v.1 p)))))]) (xW G a v mo ki pr df co bi g9 lr bf tn ln nx ct hv v0 k0 v1 k1 ++ [(oa, .inl (cI G, 1, .inl of))]) H0) 0 0 (va_A (xW G a v mo ki pr df co bi g9 lr bf tn ln nx ct hv v0 k0 v1 k1 ++ [(oa, .inl (cI G, 1, .inl of))]) H0.size) := by
  refine enterHX (cc := cL_changes) (maxL := 7) (ret := some .int) (own := RL) (lv := [(0, .ref (a 0)), (1, .int (nI (0))), (2, .int (nI (p))), (3, .int (iI (w))), (4, .int (c9)), (5, .ref oa)]) (by decide) rfl rfl rfl (Nat.le_of_ble_eq_true rfl) ?_
  intro pg ev s m below meth c hx hb hr hts hown hlocks hml htab hH hCX ls hl
  subst hH
  have hC := hCX.1
  have hLo := va_freeB hB0 hC.2.2.2.1
  have hD := hB0.self (sz := s.heap.size)
  have hS : va_S (va_A (xW G a v mo ki pr df co bi g9 lr bf tn ln nx ct hv v0 k0 v1 k1 ++ [(oa, .inl (cI G, 1, .inl of))]) s.heap.size) s.heap s.heap [] := va_S.rf
  unfold qMi
  generalize hAe : va_A (xW G a v mo ki pr df co bi g9 lr bf tn ln nx ct hv v0 k0 v1 k1 ++ [(oa, .inl (cI G, 1, .inl of))]) s.heap.size = A at hD hLo hS ⊢
  have hA : ∀ q, s.heap.size ≤ q → A q := fun q h => by rw [← hAe]; exact Or.inr h
  generalize ([] : List Loc) = locs at hS ⊢
  have hP := hP0
  refine lv_aload hx hb dL_changes_0 (lv_at hl 5 rfl) ?_
  refine lv_iconst (v := nI (0)) hx hb dL_changes_2 (by decide) ?_
  refine lv_iload_n hx hb dL_changes_3 rfl (lv_at hl 1 rfl) ?_
  refine lv_if_ne (tgt := 16) hx hb dL_changes_4 (by decide) (fun c_1 => ?_) (fun c_1 => ?_)
  · have f_2 : ¬ (0 : Int) = (0 : Int) := fun z => c_1 ((c_eq (nI_toInt (n := 0) (by omega)) rfl).mpr z)
    exfalso; omega
  · have f_3 : (0 : Int) = (0 : Int) := (c_eq (nI_toInt (n := 0) (by omega)) rfl).mp c_1
    refine lv_aload_n hx hb dL_changes_7 rfl (lv_at hl 0 rfl) ?_
    refine lv_iload_n hx hb dL_changes_8 rfl (lv_at hl 2 rfl) ?_
    refine lv_iload_n hx hb dL_changes_9 rfl (lv_at hl 3 rfl) ?_
    refine kPreI (va_runV (As := [.int (nI (p)), .int (iI (w))]) (rest := [.int (nI (0)), .ref oa]) ⟨hx, hb, hml, hown, hts⟩ (c_X8_draw a v mo ki pr df co bi g9 lr bf tn ln nx ct hv v0 k0 v1 k1 p w (by first | assumption | omega) (by first | assumption | omega) (by first | assumption | omega) (by first | assumption | omega) (pre_P hP) ((pre_D hD).weaken (fun _ _ _ h => hLo _ h))) (cwV 2 hts gL_changes_X8_draw rfl rfl rfl (by decide +kernel) ⟨Nat.le_of_ble_eq_true rfl, Nat.le_of_ble_eq_true rfl⟩) (preV hC hS hLo hP (ci := 7) (q0 := 0) rfl rfl) rfl rfl hl.1 rfl (lv_room (Nat.le_of_ble_eq_true rfl)) dL_changes_10 ⟨Nat.zero_le _, Nat.zero_le _⟩) hP hD hS hA (fun _ => rfl) (fun r_6 u_4 H locs q_5 hP hD hS => ?_)
    have hP : PP G (xW G a (va_up v.1 p w, v.2.1, v.2.2.1, v.2.2.2.1, v.2.2.2.2.1, v.2.2.2.2.2.1, v.2.2.2.2.2.2.1, v.2.2.2.2.2.2.2.1, v.2.2.2.2.2.2.2.2.1, v.2.2.2.2.2.2.2.2.2) mo ki pr df co bi g9 lr bf tn ln ((nx + 1) % 6) (min (ct + 1) 6) (va_up hv nx v) v0 k0 v1 k1 ++ [(oa, .inl (cI G, 1, .inl of))]) H := hP
    have hD : va_D A (xW G a (va_up v.1 p w, v.2.1, v.2.2.1, v.2.2.2.1, v.2.2.2.2.1, v.2.2.2.2.2.1, v.2.2.2.2.2.2.1, v.2.2.2.2.2.2.2.1, v.2.2.2.2.2.2.2.2.1, v.2.2.2.2.2.2.2.2.2) mo ki pr df co bi g9 lr bf tn ln ((nx + 1) % 6) (min (ct + 1) 6) (va_up hv nx v) v0 k0 v1 k1 ++ [(oa, .inl (cI G, 1, .inl of))]) := hD
    refine topE (v' := iI (v.1 p)) (q_5) ?_
    refine lv_goto (tgt := 94) hx hb dL_changes_13 (by decide) ?_
    refine gOutI hx hb hC.K hP hD hS dL_changes_94 (fun H locs hP hD hS => ?_)
    have hP : PP G (xW G a (va_up v.1 p w, v.2.1, v.2.2.1, v.2.2.2.1, v.2.2.2.2.1, v.2.2.2.2.2.1, v.2.2.2.2.2.2.1, v.2.2.2.2.2.2.2.1, v.2.2.2.2.2.2.2.2.1, v.2.2.2.2.2.2.2.2.2) mo ki pr df co bi g9 lr bf tn ln ((nx + 1) % 6) (min (ct + 1) 6) (va_up hv nx v) v0 k0 v1 k1 ++ [(oa, .inl (cI G, 1, .inl (upd of 0 (iI (v.1 p)))))]) H := hP
    have hD : va_D A (xW G a (va_up v.1 p w, v.2.1, v.2.2.1, v.2.2.2.1, v.2.2.2.2.1, v.2.2.2.2.2.1, v.2.2.2.2.2.2.1, v.2.2.2.2.2.2.2.1, v.2.2.2.2.2.2.2.2.1, v.2.2.2.2.2.2.2.2.2) mo ki pr df co bi g9 lr bf tn ln ((nx + 1) % 6) (min (ct + 1) 6) (va_up hv nx v) v0 k0 v1 k1 ++ [(oa, .inl (cI G, 1, .inl (upd of 0 (iI (v.1 p)))))]) := hD
    refine lv_goto (tgt := 110) hx hb dL_changes_95 (by decide) ?_
    refine lv_iconst (v := nI (0)) hx hb dL_changes_110 (by decide) ?_
    exact xMi (G := G) (post := (fun (r : Int32) (u : Unit) => r = nI 0)) (w1 := (fun (u : Unit) => xW G a (va_up v.1 p w, v.2.1, v.2.2.1, v.2.2.2.1, v.2.2.2.2.1, v.2.2.2.2.2.1, v.2.2.2.2.2.2.1, v.2.2.2.2.2.2.2.1, v.2.2.2.2.2.2.2.2.1, v.2.2.2.2.2.2.2.2.2) mo ki pr df co bi g9 lr bf tn ln ((nx + 1) % 6) (min (ct + 1) 6) (va_up hv nx v) v0 k0 v1 k1 ++ [(oa, .inl (cI G, 1, .inl (upd of 0 (iI (v.1 p)))))])) (()) hx hb hr hlocks hP hS (by exact rfl) (by exact rfl) dL_changes_111

set_option maxHeartbeats 4000000 in
set_option maxRecDepth 100000 in
theorem c_L_chg_0_x1 {l : Launch} {G : GT} {H0 : Heap} (a : Nat → Nat) (v : SVT) (mo ki : Nat → Nat) (pr df : Nat → Int) (co : Int32) (bi : Nat) (g9 : Nat → Int32) (lr : Nat) (bf : Nat → Int) (tn : Nat → Nat) (ln nx ct : Nat) (hv : Nat → SVT) (v0 : SVT) (k0 : Nat) (v1 : SVT) (k1 : Nat) (oa : Nat) (of : Nat → Int32) (p x0 : Int32) (c9 : Int32) (hbad : p.toInt < 0 ∨ 64 ≤ p.toInt) (hfl : l.stackTraces = false) (hP0 : PP G (xW G a v mo ki pr df co bi g9 lr bf tn ln nx ct hv v0 k0 v1 k1 ++ [(oa, .inl (cI G, 1, .inl of))]) H0) (hB0 : va_D (lo G) (xW G a v mo ki pr df co bi g9 lr bf tn ln nx ct hv v0 k0 v1 k1 ++ [(oa, .inl (cI G, 1, .inl of))])) : Met l yL_changes wsL_changes ({ frames := 8, cells := 1, slots := 6, locals := 124 } : Room) (pcX G [.ref (a 0), .int (nI (0)), .int (p), .int (x0), .int (c9), .ref oa] H0) (qMi G (fun (r : Int32) (u : Unit) => r = nI 1) (fun (u : Unit) => xW G a v mo ki pr df co bi g9 lr bf tn ln nx ct hv v0 k0 v1 k1 ++ [(oa, .inl (cI G, 1, .inl of))]) (xW G a v mo ki pr df co bi g9 lr bf tn ln nx ct hv v0 k0 v1 k1 ++ [(oa, .inl (cI G, 1, .inl of))]) H0) 1 6 (va_A (xW G a v mo ki pr df co bi g9 lr bf tn ln nx ct hv v0 k0 v1 k1 ++ [(oa, .inl (cI G, 1, .inl of))]) H0.size) := by
  refine enterHX (cc := cL_changes) (maxL := 7) (ret := some .int) (own := RL) (lv := [(0, .ref (a 0)), (1, .int (nI (0))), (2, .int (p)), (3, .int (x0)), (4, .int (c9)), (5, .ref oa)]) (by decide) rfl rfl rfl (Nat.le_of_ble_eq_true rfl) ?_
  intro pg ev s m below meth c hx hb hr hts hown hlocks hml htab hH hCX ls hl
  subst hH
  have hC := hCX.1
  have hLo := va_freeB hB0 hC.2.2.2.1
  have hD := hB0.self (sz := s.heap.size)
  have hS : va_S (va_A (xW G a v mo ki pr df co bi g9 lr bf tn ln nx ct hv v0 k0 v1 k1 ++ [(oa, .inl (cI G, 1, .inl of))]) s.heap.size) s.heap s.heap [] := va_S.rf
  unfold qMi
  generalize hAe : va_A (xW G a v mo ki pr df co bi g9 lr bf tn ln nx ct hv v0 k0 v1 k1 ++ [(oa, .inl (cI G, 1, .inl of))]) s.heap.size = A at hD hLo hS ⊢
  have hA : ∀ q, s.heap.size ≤ q → A q := fun q h => by rw [← hAe]; exact Or.inr h
  generalize ([] : List Loc) = locs at hS ⊢
  have hP := hP0
  refine lv_aload hx hb dL_changes_0 (lv_at hl 5 rfl) ?_
  refine lv_iconst (v := nI (0)) hx hb dL_changes_2 (by decide) ?_
  refine lv_iload_n hx hb dL_changes_3 rfl (lv_at hl 1 rfl) ?_
  refine lv_if_ne (tgt := 16) hx hb dL_changes_4 (by decide) (fun c_1 => ?_) (fun c_1 => ?_)
  · have f_2 : ¬ (0 : Int) = (0 : Int) := fun z => c_1 ((c_eq (nI_toInt (n := 0) (by omega)) rfl).mpr z)
    exfalso; omega
  · have f_3 : (0 : Int) = (0 : Int) := (c_eq (nI_toInt (n := 0) (by omega)) rfl).mp c_1
    refine lv_aload_n hx hb dL_changes_7 rfl (lv_at hl 0 rfl) ?_
    refine lv_iload_n hx hb dL_changes_8 rfl (lv_at hl 2 rfl) ?_
    refine lv_iload_n hx hb dL_changes_9 rfl (lv_at hl 3 rfl) ?_
    refine tCatch (hh := [(0, 95, 98, 32), (0, 95, 102, 34), (0, 95, 106, 36)]) (own := RL) (name := "java/lang/IndexOutOfBoundsException") (vx_runV (As := [.int (p), .int (x0)]) (rest := [.int (nI (0)), .ref oa]) ⟨hx, hb, hml, hown, hts⟩ (c_X8_draw_x1 (a 0) p x0 (by first | assumption | omega) hfl) (cwV 2 hts gL_changes_X8_draw rfl rfl rfl (by decide +kernel) ⟨Nat.le_of_ble_eq_true rfl, Nat.le_of_ble_eq_true rfl⟩) (preVX hCX hS hLo hP (ci := 7) (q0 := 0) rfl rfl) rfl rfl hl.1 rfl (lv_room (Nat.le_of_ble_eq_true rfl)) dL_changes_10 ⟨Nat.le_of_ble_eq_true rfl, Nat.le_of_ble_eq_true rfl⟩) hP hS hown htab [] ⟨0, 95, 98, 32⟩ [⟨0, 95, 102, 34⟩, ⟨0, 95, 106, 36⟩] rfl (fun z hz => nomatch hz) (by decide) (by decide) (hts (.classLink RL 32 "java/lang/IndexOutOfBoundsException") (by decide +kernel)) (hC.nest 80 rfl) (fun q_4 H locs hP hS => ?_)
    refine lv_astore (lv' := [(6, .ref q_4), (0, .ref (a 0)), (1, .int (nI (0))), (2, .int (p)), (3, .int (x0)), (4, .int (c9)), (5, .ref oa)]) hx hb dL_changes_98 hl (by decide) rfl (fun ls hl => ?_)
    refine lv_iconst (v := nI (1)) hx hb dL_changes_100 (by decide) ?_
    exact xMi (G := G) (post := (fun (r : Int32) (u : Unit) => r = nI 1)) (w1 := (fun (u : Unit) => xW G a v mo ki pr df co bi g9 lr bf tn ln nx ct hv v0 k0 v1 k1 ++ [(oa, .inl (cI G, 1, .inl of))])) (()) hx hb hr hlocks hP hS (by exact rfl) (by exact rfl) dL_changes_101

set_option maxHeartbeats 4000000 in
set_option maxRecDepth 100000 in
theorem c_L_chg_0_x2 {l : Launch} {G : GT} {H0 : Heap} (a : Nat → Nat) (v : SVT) (mo ki : Nat → Nat) (pr df : Nat → Int) (co : Int32) (bi : Nat) (g9 : Nat → Int32) (lr : Nat) (bf : Nat → Int) (tn : Nat → Nat) (ln nx ct : Nat) (hv : Nat → SVT) (v0 : SVT) (k0 : Nat) (v1 : SVT) (k1 : Nat) (oa : Nat) (of : Nat → Int32) (p : Nat) (w : Int32) (c9 : Int32) (hp : p < 64) (hbad : w.toInt < 0 ∨ 15 < w.toInt) (hfl : l.stackTraces = false) (hP0 : PP G (xW G a v mo ki pr df co bi g9 lr bf tn ln nx ct hv v0 k0 v1 k1 ++ [(oa, .inl (cI G, 1, .inl of))]) H0) (hB0 : va_D (lo G) (xW G a v mo ki pr df co bi g9 lr bf tn ln nx ct hv v0 k0 v1 k1 ++ [(oa, .inl (cI G, 1, .inl of))])) : Met l yL_changes wsL_changes ({ frames := 8, cells := 1, slots := 6, locals := 126 } : Room) (pcX G [.ref (a 0), .int (nI (0)), .int (nI (p)), .int (w), .int (c9), .ref oa] H0) (qMi G (fun (r : Int32) (u : Unit) => r = nI 2) (fun (u : Unit) => xW G a v mo ki pr df co bi g9 lr bf tn ln nx ct hv v0 k0 v1 k1 ++ [(oa, .inl (cI G, 1, .inl of))]) (xW G a v mo ki pr df co bi g9 lr bf tn ln nx ct hv v0 k0 v1 k1 ++ [(oa, .inl (cI G, 1, .inl of))]) H0) 1 6 (va_A (xW G a v mo ki pr df co bi g9 lr bf tn ln nx ct hv v0 k0 v1 k1 ++ [(oa, .inl (cI G, 1, .inl of))]) H0.size) := by
  refine enterHX (cc := cL_changes) (maxL := 7) (ret := some .int) (own := RL) (lv := [(0, .ref (a 0)), (1, .int (nI (0))), (2, .int (nI (p))), (3, .int (w)), (4, .int (c9)), (5, .ref oa)]) (by decide) rfl rfl rfl (Nat.le_of_ble_eq_true rfl) ?_
  intro pg ev s m below meth c hx hb hr hts hown hlocks hml htab hH hCX ls hl
  subst hH
  have hC := hCX.1
  have hLo := va_freeB hB0 hC.2.2.2.1
  have hD := hB0.self (sz := s.heap.size)
  have hS : va_S (va_A (xW G a v mo ki pr df co bi g9 lr bf tn ln nx ct hv v0 k0 v1 k1 ++ [(oa, .inl (cI G, 1, .inl of))]) s.heap.size) s.heap s.heap [] := va_S.rf
  unfold qMi
  generalize hAe : va_A (xW G a v mo ki pr df co bi g9 lr bf tn ln nx ct hv v0 k0 v1 k1 ++ [(oa, .inl (cI G, 1, .inl of))]) s.heap.size = A at hD hLo hS ⊢
  have hA : ∀ q, s.heap.size ≤ q → A q := fun q h => by rw [← hAe]; exact Or.inr h
  generalize ([] : List Loc) = locs at hS ⊢
  have hP := hP0
  refine lv_aload hx hb dL_changes_0 (lv_at hl 5 rfl) ?_
  refine lv_iconst (v := nI (0)) hx hb dL_changes_2 (by decide) ?_
  refine lv_iload_n hx hb dL_changes_3 rfl (lv_at hl 1 rfl) ?_
  refine lv_if_ne (tgt := 16) hx hb dL_changes_4 (by decide) (fun c_1 => ?_) (fun c_1 => ?_)
  · have f_2 : ¬ (0 : Int) = (0 : Int) := fun z => c_1 ((c_eq (nI_toInt (n := 0) (by omega)) rfl).mpr z)
    exfalso; omega
  · have f_3 : (0 : Int) = (0 : Int) := (c_eq (nI_toInt (n := 0) (by omega)) rfl).mp c_1
    refine lv_aload_n hx hb dL_changes_7 rfl (lv_at hl 0 rfl) ?_
    refine lv_iload_n hx hb dL_changes_8 rfl (lv_at hl 2 rfl) ?_
    refine lv_iload_n hx hb dL_changes_9 rfl (lv_at hl 3 rfl) ?_
    refine tCatch (hh := [(0, 95, 98, 32), (0, 95, 102, 34), (0, 95, 106, 36)]) (own := RL) (name := "java/lang/IllegalArgumentException") (vx_runV (As := [.int (nI (p)), .int (w)]) (rest := [.int (nI (0)), .ref oa]) ⟨hx, hb, hml, hown, hts⟩ (c_X8_draw_x2 (a 0) p w (by first | assumption | omega) (by first | assumption | omega) hfl) (cwV 2 hts gL_changes_X8_draw rfl rfl rfl (by decide +kernel) ⟨Nat.le_of_ble_eq_true rfl, Nat.le_of_ble_eq_true rfl⟩) (preVX hCX hS hLo hP (ci := 7) (q0 := 0) rfl rfl) rfl rfl hl.1 rfl (lv_room (Nat.le_of_ble_eq_true rfl)) dL_changes_10 ⟨Nat.le_of_ble_eq_true rfl, Nat.le_of_ble_eq_true rfl⟩) hP hS hown htab [⟨0, 95, 98, 32⟩] ⟨0, 95, 102, 34⟩ [⟨0, 95, 106, 36⟩] rfl (fun z hz => by rcases List.mem_singleton.mp hz with rfl; exact Or.inr ⟨by decide, "java/lang/IndexOutOfBoundsException", (hts (.classLink RL 32 "java/lang/IndexOutOfBoundsException") (by decide +kernel)), hC.nc 0 rfl⟩) (by decide) (by decide) (hts (.classLink RL 34 "java/lang/IllegalArgumentException") (by decide +kernel)) (hC.nest 81 rfl) (fun q_4 H locs hP hS => ?_)
    refine lv_astore (lv' := [(6, .ref q_4), (0, .ref (a 0)), (1, .int (nI (0))), (2, .int (nI (p))), (3, .int (w)), (4, .int (c9)), (5, .ref oa)]) hx hb dL_changes_102 hl (by decide) rfl (fun ls hl => ?_)
    refine lv_iconst (v := nI (2)) hx hb dL_changes_104 (by decide) ?_
    exact xMi (G := G) (post := (fun (r : Int32) (u : Unit) => r = nI 2)) (w1 := (fun (u : Unit) => xW G a v mo ki pr df co bi g9 lr bf tn ln nx ct hv v0 k0 v1 k1 ++ [(oa, .inl (cI G, 1, .inl of))])) (()) hx hb hr hlocks hP hS (by exact rfl) (by exact rfl) dL_changes_105

set_option maxHeartbeats 4000000 in
set_option maxRecDepth 100000 in
theorem c_L_chg_1 {l : Launch} {G : GT} {H0 : Heap} (a : Nat → Nat) (v : SVT) (mo ki : Nat → Nat) (pr df : Nat → Int) (co : Int32) (bi : Nat) (g9 : Nat → Int32) (lr : Nat) (bf : Nat → Int) (tn : Nat → Nat) (ln nx ct : Nat) (hv : Nat → SVT) (v0 : SVT) (k0 : Nat) (v1 : SVT) (k1 : Nat) (oa : Nat) (of : Nat → Int32) (p hh ww : Nat) (w : Int) (c9 : Int32) (hnx : nx < 6) (hct : ct ≤ 6) (hp : p < 64) (hhh : 1 ≤ hh ∧ hh ≤ 8) (hww : 1 ≤ ww ∧ ww ≤ 8) (hw : 0 ≤ w ∧ w ≤ 15) (hd : R15 v.1) (hc1 : c9 / nI 100 = nI ww) (hc2 : c9 - c9 / nI 100 * nI 100 = iI w) (hfl : l.stackTraces = false) (hP0 : PP G (xW G a v mo ki pr df co bi g9 lr bf tn ln nx ct hv v0 k0 v1 k1 ++ [(oa, .inl (cI G, 1, .inl of))]) H0) (hB0 : va_D (lo G) (xW G a v mo ki pr df co bi g9 lr bf tn ln nx ct hv v0 k0 v1 k1 ++ [(oa, .inl (cI G, 1, .inl of))])) : Met l yL_changes wsL_changes ({ frames := 5, cells := 0, slots := 0, locals := 112 } : Room) (pcX G [.ref (a 0), .int (nI (1)), .int (nI (p)), .int (nI (hh)), .int (c9), .ref oa] H0) (qMi G (fun (r : Int32) (u : Unit) => r = nI 0) (fun (u : Unit) => xW G a ((fillS v.1 p hh ww w).1, v.2.1, v.2.2.1, v.2.2.2.1, v.2.2.2.2.1, v.2.2.2.2.2.1, v.2.2.2.2.2.2.1, v.2.2.2.2.2.2.2.1, v.2.2.2.2.2.2.2.2.1, v.2.2.2.2.2.2.2.2.2) mo ki pr df co bi g9 lr bf tn ln ((nx + 1) % 6) (min (ct + 1) 6) (va_up hv nx v) v0 k0 v1 k1 ++ [(oa, .inl (cI G, 1, .inl (upd of 0 (nI ((fillS v.1 p hh ww w).2)))))]) (xW G a v mo ki pr df co bi g9 lr bf tn ln nx ct hv v0 k0 v1 k1 ++ [(oa, .inl (cI G, 1, .inl of))]) H0) 0 0 (va_A (xW G a v mo ki pr df co bi g9 lr bf tn ln nx ct hv v0 k0 v1 k1 ++ [(oa, .inl (cI G, 1, .inl of))]) H0.size) := by
  refine enterHX (cc := cL_changes) (maxL := 7) (ret := some .int) (own := RL) (lv := [(0, .ref (a 0)), (1, .int (nI (1))), (2, .int (nI (p))), (3, .int (nI (hh))), (4, .int (c9)), (5, .ref oa)]) (by decide) rfl rfl rfl (Nat.le_of_ble_eq_true rfl) ?_
  intro pg ev s m below meth c hx hb hr hts hown hlocks hml htab hH hCX ls hl
  subst hH
  have hC := hCX.1
  have hLo := va_freeB hB0 hC.2.2.2.1
  have hD := hB0.self (sz := s.heap.size)
  have hS : va_S (va_A (xW G a v mo ki pr df co bi g9 lr bf tn ln nx ct hv v0 k0 v1 k1 ++ [(oa, .inl (cI G, 1, .inl of))]) s.heap.size) s.heap s.heap [] := va_S.rf
  unfold qMi
  generalize hAe : va_A (xW G a v mo ki pr df co bi g9 lr bf tn ln nx ct hv v0 k0 v1 k1 ++ [(oa, .inl (cI G, 1, .inl of))]) s.heap.size = A at hD hLo hS ⊢
  have hA : ∀ q, s.heap.size ≤ q → A q := fun q h => by rw [← hAe]; exact Or.inr h
  generalize ([] : List Loc) = locs at hS ⊢
  have hP := hP0
  refine lv_aload hx hb dL_changes_0 (lv_at hl 5 rfl) ?_
  refine lv_iconst (v := nI (0)) hx hb dL_changes_2 (by decide) ?_
  refine lv_iload_n hx hb dL_changes_3 rfl (lv_at hl 1 rfl) ?_
  refine lv_if_ne (tgt := 16) hx hb dL_changes_4 (by decide) (fun c_1 => ?_) (fun c_1 => ?_)
  · have f_2 : ¬ (1 : Int) = (0 : Int) := fun z => c_1 ((c_eq (nI_toInt (n := 1) (by omega)) rfl).mpr z)
    refine lv_iload_n hx hb dL_changes_16 rfl (lv_at hl 1 rfl) ?_
    refine lv_iconst (v := nI (1)) hx hb dL_changes_17 (by decide) ?_
    refine lv_icmp_ne (tgt := 40) hx hb dL_changes_18 (by decide) (fun c_3 => ?_) (fun c_3 => ?_)
    · have f_4 := c_3
      exact absurd rfl f_4
    · have f_5 := c_3
      refine lv_aload_n hx hb dL_changes_21 rfl (lv_at hl 0 rfl) ?_
      refine lv_iload_n hx hb dL_changes_22 rfl (lv_at hl 2 rfl) ?_
      refine lv_iload_n hx hb dL_changes_23 rfl (lv_at hl 3 rfl) ?_
      refine lv_iload hx hb dL_changes_24 (lv_at hl 4 rfl) ?_
      refine lv_bipush (v := nI (100)) hx hb dL_changes_26 (by decide) ?_
      refine gDiv (z := nI (ww)) hx hb dL_changes_28 (nI_ne0 (by omega) (by omega)) (hc1) ?_
      refine lv_iload hx hb dL_changes_29 (lv_at hl 4 rfl) ?_
      refine lv_bipush (v := nI (100)) hx hb dL_changes_31 (by decide) ?_
      refine gRem (z := iI (w)) hx hb dL_changes_33 (nI_ne0 (by omega) (by omega)) (hc2) ?_
      refine kPreI (va_runV (As := [.int (nI (p)), .int (nI (hh)), .int (nI (ww)), .int (iI (w))]) (rest := [.int (nI (0)), .ref oa]) ⟨hx, hb, hml, hown, hts⟩ (c_X8_fill a v mo ki pr df co bi g9 lr bf tn ln nx ct hv v0 k0 v1 k1 p hh ww w (by first | assumption | omega) (by first | assumption | omega) (by first | assumption | omega) (by first | assumption | omega) (by first | assumption | omega) (by first | assumption | omega) (by first | assumption | omega) (pre_P hP) ((pre_D hD).weaken (fun _ _ _ h => hLo _ h))) (cwV 4 hts gL_changes_X8_fill rfl rfl rfl (by decide +kernel) ⟨Nat.le_of_ble_eq_true rfl, Nat.le_of_ble_eq_true rfl⟩) (preV hC hS hLo hP (ci := 7) (q0 := 0) rfl rfl) rfl rfl hl.1 rfl (lv_room (Nat.le_of_ble_eq_true rfl)) dL_changes_34 ⟨Nat.zero_le _, Nat.zero_le _⟩) hP hD hS hA (fun _ => rfl) (fun r_8 u_6 H locs q_7 hP hD hS => ?_)
      have hP : PP G (xW G a ((fillS v.1 p hh ww w).1, v.2.1, v.2.2.1, v.2.2.2.1, v.2.2.2.2.1, v.2.2.2.2.2.1, v.2.2.2.2.2.2.1, v.2.2.2.2.2.2.2.1, v.2.2.2.2.2.2.2.2.1, v.2.2.2.2.2.2.2.2.2) mo ki pr df co bi g9 lr bf tn ln ((nx + 1) % 6) (min (ct + 1) 6) (va_up hv nx v) v0 k0 v1 k1 ++ [(oa, .inl (cI G, 1, .inl of))]) H := hP
      have hD : va_D A (xW G a ((fillS v.1 p hh ww w).1, v.2.1, v.2.2.1, v.2.2.2.1, v.2.2.2.2.1, v.2.2.2.2.2.1, v.2.2.2.2.2.2.1, v.2.2.2.2.2.2.2.1, v.2.2.2.2.2.2.2.2.1, v.2.2.2.2.2.2.2.2.2) mo ki pr df co bi g9 lr bf tn ln ((nx + 1) % 6) (min (ct + 1) 6) (va_up hv nx v) v0 k0 v1 k1 ++ [(oa, .inl (cI G, 1, .inl of))]) := hD
      refine topE (v' := nI ((fillS v.1 p hh ww w).2)) (q_7) ?_
      refine lv_goto (tgt := 94) hx hb dL_changes_37 (by decide) ?_
      refine gOutI hx hb hC.K hP hD hS dL_changes_94 (fun H locs hP hD hS => ?_)
      have hP : PP G (xW G a ((fillS v.1 p hh ww w).1, v.2.1, v.2.2.1, v.2.2.2.1, v.2.2.2.2.1, v.2.2.2.2.2.1, v.2.2.2.2.2.2.1, v.2.2.2.2.2.2.2.1, v.2.2.2.2.2.2.2.2.1, v.2.2.2.2.2.2.2.2.2) mo ki pr df co bi g9 lr bf tn ln ((nx + 1) % 6) (min (ct + 1) 6) (va_up hv nx v) v0 k0 v1 k1 ++ [(oa, .inl (cI G, 1, .inl (upd of 0 (nI ((fillS v.1 p hh ww w).2)))))]) H := hP
      have hD : va_D A (xW G a ((fillS v.1 p hh ww w).1, v.2.1, v.2.2.1, v.2.2.2.1, v.2.2.2.2.1, v.2.2.2.2.2.1, v.2.2.2.2.2.2.1, v.2.2.2.2.2.2.2.1, v.2.2.2.2.2.2.2.2.1, v.2.2.2.2.2.2.2.2.2) mo ki pr df co bi g9 lr bf tn ln ((nx + 1) % 6) (min (ct + 1) 6) (va_up hv nx v) v0 k0 v1 k1 ++ [(oa, .inl (cI G, 1, .inl (upd of 0 (nI ((fillS v.1 p hh ww w).2)))))]) := hD
      refine lv_goto (tgt := 110) hx hb dL_changes_95 (by decide) ?_
      refine lv_iconst (v := nI (0)) hx hb dL_changes_110 (by decide) ?_
      exact xMi (G := G) (post := (fun (r : Int32) (u : Unit) => r = nI 0)) (w1 := (fun (u : Unit) => xW G a ((fillS v.1 p hh ww w).1, v.2.1, v.2.2.1, v.2.2.2.1, v.2.2.2.2.1, v.2.2.2.2.2.1, v.2.2.2.2.2.2.1, v.2.2.2.2.2.2.2.1, v.2.2.2.2.2.2.2.2.1, v.2.2.2.2.2.2.2.2.2) mo ki pr df co bi g9 lr bf tn ln ((nx + 1) % 6) (min (ct + 1) 6) (va_up hv nx v) v0 k0 v1 k1 ++ [(oa, .inl (cI G, 1, .inl (upd of 0 (nI ((fillS v.1 p hh ww w).2)))))])) (()) hx hb hr hlocks hP hS (by exact rfl) (by exact rfl) dL_changes_111
  · have f_9 : (1 : Int) = (0 : Int) := (c_eq (nI_toInt (n := 1) (by omega)) rfl).mp c_1
    exfalso; omega

set_option maxHeartbeats 4000000 in
set_option maxRecDepth 100000 in
theorem c_L_chg_1_x1 {l : Launch} {G : GT} {H0 : Heap} (a : Nat → Nat) (v : SVT) (mo ki : Nat → Nat) (pr df : Nat → Int) (co : Int32) (bi : Nat) (g9 : Nat → Int32) (lr : Nat) (bf : Nat → Int) (tn : Nat → Nat) (ln nx ct : Nat) (hv : Nat → SVT) (v0 : SVT) (k0 : Nat) (v1 : SVT) (k1 : Nat) (oa : Nat) (of : Nat → Int32) (p x0 x1 x2 : Int32) (c9 : Int32) (hbad : p.toInt < 0 ∨ 64 ≤ p.toInt) (hc1 : c9 / nI 100 = x1) (hc2 : c9 - c9 / nI 100 * nI 100 = x2) (hfl : l.stackTraces = false) (hP0 : PP G (xW G a v mo ki pr df co bi g9 lr bf tn ln nx ct hv v0 k0 v1 k1 ++ [(oa, .inl (cI G, 1, .inl of))]) H0) (hB0 : va_D (lo G) (xW G a v mo ki pr df co bi g9 lr bf tn ln nx ct hv v0 k0 v1 k1 ++ [(oa, .inl (cI G, 1, .inl of))])) : Met l yL_changes wsL_changes ({ frames := 8, cells := 1, slots := 6, locals := 126 } : Room) (pcX G [.ref (a 0), .int (nI (1)), .int (p), .int (x0), .int (c9), .ref oa] H0) (qMi G (fun (r : Int32) (u : Unit) => r = nI 1) (fun (u : Unit) => xW G a v mo ki pr df co bi g9 lr bf tn ln nx ct hv v0 k0 v1 k1 ++ [(oa, .inl (cI G, 1, .inl of))]) (xW G a v mo ki pr df co bi g9 lr bf tn ln nx ct hv v0 k0 v1 k1 ++ [(oa, .inl (cI G, 1, .inl of))]) H0) 1 6 (va_A (xW G a v mo ki pr df co bi g9 lr bf tn ln nx ct hv v0 k0 v1 k1 ++ [(oa, .inl (cI G, 1, .inl of))]) H0.size) := by
  refine enterHX (cc := cL_changes) (maxL := 7) (ret := some .int) (own := RL) (lv := [(0, .ref (a 0)), (1, .int (nI (1))), (2, .int (p)), (3, .int (x0)), (4, .int (c9)), (5, .ref oa)]) (by decide) rfl rfl rfl (Nat.le_of_ble_eq_true rfl) ?_
  intro pg ev s m below meth c hx hb hr hts hown hlocks hml htab hH hCX ls hl
  subst hH
  have hC := hCX.1
  have hLo := va_freeB hB0 hC.2.2.2.1
  have hD := hB0.self (sz := s.heap.size)
  have hS : va_S (va_A (xW G a v mo ki pr df co bi g9 lr bf tn ln nx ct hv v0 k0 v1 k1 ++ [(oa, .inl (cI G, 1, .inl of))]) s.heap.size) s.heap s.heap [] := va_S.rf
  unfold qMi
  generalize hAe : va_A (xW G a v mo ki pr df co bi g9 lr bf tn ln nx ct hv v0 k0 v1 k1 ++ [(oa, .inl (cI G, 1, .inl of))]) s.heap.size = A at hD hLo hS ⊢
  have hA : ∀ q, s.heap.size ≤ q → A q := fun q h => by rw [← hAe]; exact Or.inr h
  generalize ([] : List Loc) = locs at hS ⊢
  have hP := hP0
  refine lv_aload hx hb dL_changes_0 (lv_at hl 5 rfl) ?_
  refine lv_iconst (v := nI (0)) hx hb dL_changes_2 (by decide) ?_
  refine lv_iload_n hx hb dL_changes_3 rfl (lv_at hl 1 rfl) ?_
  refine lv_if_ne (tgt := 16) hx hb dL_changes_4 (by decide) (fun c_1 => ?_) (fun c_1 => ?_)
  · have f_2 : ¬ (1 : Int) = (0 : Int) := fun z => c_1 ((c_eq (nI_toInt (n := 1) (by omega)) rfl).mpr z)
    refine lv_iload_n hx hb dL_changes_16 rfl (lv_at hl 1 rfl) ?_
    refine lv_iconst (v := nI (1)) hx hb dL_changes_17 (by decide) ?_
    refine lv_icmp_ne (tgt := 40) hx hb dL_changes_18 (by decide) (fun c_3 => ?_) (fun c_3 => ?_)
    · have f_4 := c_3
      exact absurd rfl f_4
    · have f_5 := c_3
      refine lv_aload_n hx hb dL_changes_21 rfl (lv_at hl 0 rfl) ?_
      refine lv_iload_n hx hb dL_changes_22 rfl (lv_at hl 2 rfl) ?_
      refine lv_iload_n hx hb dL_changes_23 rfl (lv_at hl 3 rfl) ?_
      refine lv_iload hx hb dL_changes_24 (lv_at hl 4 rfl) ?_
      refine lv_bipush (v := nI (100)) hx hb dL_changes_26 (by decide) ?_
      refine gDiv (z := x1) hx hb dL_changes_28 (nI_ne0 (by omega) (by omega)) (hc1) ?_
      refine lv_iload hx hb dL_changes_29 (lv_at hl 4 rfl) ?_
      refine lv_bipush (v := nI (100)) hx hb dL_changes_31 (by decide) ?_
      refine gRem (z := x2) hx hb dL_changes_33 (nI_ne0 (by omega) (by omega)) (hc2) ?_
      refine tCatch (hh := [(0, 95, 98, 32), (0, 95, 102, 34), (0, 95, 106, 36)]) (own := RL) (name := "java/lang/IndexOutOfBoundsException") (vx_runV (As := [.int (p), .int (x0), .int (x1), .int (x2)]) (rest := [.int (nI (0)), .ref oa]) ⟨hx, hb, hml, hown, hts⟩ (c_X8_fill_x1 (a 0) p x0 x1 x2 (by first | assumption | omega) hfl) (cwV 4 hts gL_changes_X8_fill rfl rfl rfl (by decide +kernel) ⟨Nat.le_of_ble_eq_true rfl, Nat.le_of_ble_eq_true rfl⟩) (preVX hCX hS hLo hP (ci := 7) (q0 := 0) rfl rfl) rfl rfl hl.1 rfl (lv_room (Nat.le_of_ble_eq_true rfl)) dL_changes_34 ⟨Nat.le_of_ble_eq_true rfl, Nat.le_of_ble_eq_true rfl⟩) hP hS hown htab [] ⟨0, 95, 98, 32⟩ [⟨0, 95, 102, 34⟩, ⟨0, 95, 106, 36⟩] rfl (fun z hz => nomatch hz) (by decide) (by decide) (hts (.classLink RL 32 "java/lang/IndexOutOfBoundsException") (by decide +kernel)) (hC.nest 80 rfl) (fun q_6 H locs hP hS => ?_)
      refine lv_astore (lv' := [(6, .ref q_6), (0, .ref (a 0)), (1, .int (nI (1))), (2, .int (p)), (3, .int (x0)), (4, .int (c9)), (5, .ref oa)]) hx hb dL_changes_98 hl (by decide) rfl (fun ls hl => ?_)
      refine lv_iconst (v := nI (1)) hx hb dL_changes_100 (by decide) ?_
      exact xMi (G := G) (post := (fun (r : Int32) (u : Unit) => r = nI 1)) (w1 := (fun (u : Unit) => xW G a v mo ki pr df co bi g9 lr bf tn ln nx ct hv v0 k0 v1 k1 ++ [(oa, .inl (cI G, 1, .inl of))])) (()) hx hb hr hlocks hP hS (by exact rfl) (by exact rfl) dL_changes_101
  · have f_7 : (1 : Int) = (0 : Int) := (c_eq (nI_toInt (n := 1) (by omega)) rfl).mp c_1
    exfalso; omega

set_option maxHeartbeats 4000000 in
set_option maxRecDepth 100000 in
theorem c_L_chg_1_x2a {l : Launch} {G : GT} {H0 : Heap} (a : Nat → Nat) (v : SVT) (mo ki : Nat → Nat) (pr df : Nat → Int) (co : Int32) (bi : Nat) (g9 : Nat → Int32) (lr : Nat) (bf : Nat → Int) (tn : Nat → Nat) (ln nx ct : Nat) (hv : Nat → SVT) (v0 : SVT) (k0 : Nat) (v1 : SVT) (k1 : Nat) (oa : Nat) (of : Nat → Int32) (p : Nat) (x0 x1 x2 : Int32) (c9 : Int32) (hp : p < 64) (hbad : x0.toInt < 1 ∨ 8 < x0.toInt) (hc1 : c9 / nI 100 = x1) (hc2 : c9 - c9 / nI 100 * nI 100 = x2) (hfl : l.stackTraces = false) (hP0 : PP G (xW G a v mo ki pr df co bi g9 lr bf tn ln nx ct hv v0 k0 v1 k1 ++ [(oa, .inl (cI G, 1, .inl of))]) H0) (hB0 : va_D (lo G) (xW G a v mo ki pr df co bi g9 lr bf tn ln nx ct hv v0 k0 v1 k1 ++ [(oa, .inl (cI G, 1, .inl of))])) : Met l yL_changes wsL_changes ({ frames := 8, cells := 1, slots := 6, locals := 128 } : Room) (pcX G [.ref (a 0), .int (nI (1)), .int (nI (p)), .int (x0), .int (c9), .ref oa] H0) (qMi G (fun (r : Int32) (u : Unit) => r = nI 2) (fun (u : Unit) => xW G a v mo ki pr df co bi g9 lr bf tn ln nx ct hv v0 k0 v1 k1 ++ [(oa, .inl (cI G, 1, .inl of))]) (xW G a v mo ki pr df co bi g9 lr bf tn ln nx ct hv v0 k0 v1 k1 ++ [(oa, .inl (cI G, 1, .inl of))]) H0) 1 6 (va_A (xW G a v mo ki pr df co bi g9 lr bf tn ln nx ct hv v0 k0 v1 k1 ++ [(oa, .inl (cI G, 1, .inl of))]) H0.size) := by
  refine enterHX (cc := cL_changes) (maxL := 7) (ret := some .int) (own := RL) (lv := [(0, .ref (a 0)), (1, .int (nI (1))), (2, .int (nI (p))), (3, .int (x0)), (4, .int (c9)), (5, .ref oa)]) (by decide) rfl rfl rfl (Nat.le_of_ble_eq_true rfl) ?_
  intro pg ev s m below meth c hx hb hr hts hown hlocks hml htab hH hCX ls hl
  subst hH
  have hC := hCX.1
  have hLo := va_freeB hB0 hC.2.2.2.1
  have hD := hB0.self (sz := s.heap.size)
  have hS : va_S (va_A (xW G a v mo ki pr df co bi g9 lr bf tn ln nx ct hv v0 k0 v1 k1 ++ [(oa, .inl (cI G, 1, .inl of))]) s.heap.size) s.heap s.heap [] := va_S.rf
  unfold qMi
  generalize hAe : va_A (xW G a v mo ki pr df co bi g9 lr bf tn ln nx ct hv v0 k0 v1 k1 ++ [(oa, .inl (cI G, 1, .inl of))]) s.heap.size = A at hD hLo hS ⊢
  have hA : ∀ q, s.heap.size ≤ q → A q := fun q h => by rw [← hAe]; exact Or.inr h
  generalize ([] : List Loc) = locs at hS ⊢
  have hP := hP0
  refine lv_aload hx hb dL_changes_0 (lv_at hl 5 rfl) ?_
  refine lv_iconst (v := nI (0)) hx hb dL_changes_2 (by decide) ?_
  refine lv_iload_n hx hb dL_changes_3 rfl (lv_at hl 1 rfl) ?_
  refine lv_if_ne (tgt := 16) hx hb dL_changes_4 (by decide) (fun c_1 => ?_) (fun c_1 => ?_)
  · have f_2 : ¬ (1 : Int) = (0 : Int) := fun z => c_1 ((c_eq (nI_toInt (n := 1) (by omega)) rfl).mpr z)
    refine lv_iload_n hx hb dL_changes_16 rfl (lv_at hl 1 rfl) ?_
    refine lv_iconst (v := nI (1)) hx hb dL_changes_17 (by decide) ?_
    refine lv_icmp_ne (tgt := 40) hx hb dL_changes_18 (by decide) (fun c_3 => ?_) (fun c_3 => ?_)
    · have f_4 := c_3
      exact absurd rfl f_4
    · have f_5 := c_3
      refine lv_aload_n hx hb dL_changes_21 rfl (lv_at hl 0 rfl) ?_
      refine lv_iload_n hx hb dL_changes_22 rfl (lv_at hl 2 rfl) ?_
      refine lv_iload_n hx hb dL_changes_23 rfl (lv_at hl 3 rfl) ?_
      refine lv_iload hx hb dL_changes_24 (lv_at hl 4 rfl) ?_
      refine lv_bipush (v := nI (100)) hx hb dL_changes_26 (by decide) ?_
      refine gDiv (z := x1) hx hb dL_changes_28 (nI_ne0 (by omega) (by omega)) (hc1) ?_
      refine lv_iload hx hb dL_changes_29 (lv_at hl 4 rfl) ?_
      refine lv_bipush (v := nI (100)) hx hb dL_changes_31 (by decide) ?_
      refine gRem (z := x2) hx hb dL_changes_33 (nI_ne0 (by omega) (by omega)) (hc2) ?_
      refine tCatch (hh := [(0, 95, 98, 32), (0, 95, 102, 34), (0, 95, 106, 36)]) (own := RL) (name := "java/lang/IllegalArgumentException") (vx_runV (As := [.int (nI (p)), .int (x0), .int (x1), .int (x2)]) (rest := [.int (nI (0)), .ref oa]) ⟨hx, hb, hml, hown, hts⟩ (c_X8_fill_x2a (a 0) p x0 x1 x2 (by first | assumption | omega) (by first | assumption | omega) hfl) (cwV 4 hts gL_changes_X8_fill rfl rfl rfl (by decide +kernel) ⟨Nat.le_of_ble_eq_true rfl, Nat.le_of_ble_eq_true rfl⟩) (preVX hCX hS hLo hP (ci := 7) (q0 := 0) rfl rfl) rfl rfl hl.1 rfl (lv_room (Nat.le_of_ble_eq_true rfl)) dL_changes_34 ⟨Nat.le_of_ble_eq_true rfl, Nat.le_of_ble_eq_true rfl⟩) hP hS hown htab [⟨0, 95, 98, 32⟩] ⟨0, 95, 102, 34⟩ [⟨0, 95, 106, 36⟩] rfl (fun z hz => by rcases List.mem_singleton.mp hz with rfl; exact Or.inr ⟨by decide, "java/lang/IndexOutOfBoundsException", (hts (.classLink RL 32 "java/lang/IndexOutOfBoundsException") (by decide +kernel)), hC.nc 0 rfl⟩) (by decide) (by decide) (hts (.classLink RL 34 "java/lang/IllegalArgumentException") (by decide +kernel)) (hC.nest 81 rfl) (fun q_6 H locs hP hS => ?_)
      refine lv_astore (lv' := [(6, .ref q_6), (0, .ref (a 0)), (1, .int (nI (1))), (2, .int (nI (p))), (3, .int (x0)), (4, .int (c9)), (5, .ref oa)]) hx hb dL_changes_102 hl (by decide) rfl (fun ls hl => ?_)
      refine lv_iconst (v := nI (2)) hx hb dL_changes_104 (by decide) ?_
      exact xMi (G := G) (post := (fun (r : Int32) (u : Unit) => r = nI 2)) (w1 := (fun (u : Unit) => xW G a v mo ki pr df co bi g9 lr bf tn ln nx ct hv v0 k0 v1 k1 ++ [(oa, .inl (cI G, 1, .inl of))])) (()) hx hb hr hlocks hP hS (by exact rfl) (by exact rfl) dL_changes_105
  · have f_7 : (1 : Int) = (0 : Int) := (c_eq (nI_toInt (n := 1) (by omega)) rfl).mp c_1
    exfalso; omega

set_option maxHeartbeats 4000000 in
set_option maxRecDepth 100000 in
theorem c_L_chg_1_x2b {l : Launch} {G : GT} {H0 : Heap} (a : Nat → Nat) (v : SVT) (mo ki : Nat → Nat) (pr df : Nat → Int) (co : Int32) (bi : Nat) (g9 : Nat → Int32) (lr : Nat) (bf : Nat → Int) (tn : Nat → Nat) (ln nx ct : Nat) (hv : Nat → SVT) (v0 : SVT) (k0 : Nat) (v1 : SVT) (k1 : Nat) (oa : Nat) (of : Nat → Int32) (p : Nat) (x0 x1 x2 : Int32) (c9 : Int32) (hp : p < 64) (h0 : 1 ≤ x0.toInt ∧ x0.toInt ≤ 8) (hbad : x1.toInt < 1 ∨ 8 < x1.toInt) (hc1 : c9 / nI 100 = x1) (hc2 : c9 - c9 / nI 100 * nI 100 = x2) (hfl : l.stackTraces = false) (hP0 : PP G (xW G a v mo ki pr df co bi g9 lr bf tn ln nx ct hv v0 k0 v1 k1 ++ [(oa, .inl (cI G, 1, .inl of))]) H0) (hB0 : va_D (lo G) (xW G a v mo ki pr df co bi g9 lr bf tn ln nx ct hv v0 k0 v1 k1 ++ [(oa, .inl (cI G, 1, .inl of))])) : Met l yL_changes wsL_changes ({ frames := 8, cells := 1, slots := 6, locals := 128 } : Room) (pcX G [.ref (a 0), .int (nI (1)), .int (nI (p)), .int (x0), .int (c9), .ref oa] H0) (qMi G (fun (r : Int32) (u : Unit) => r = nI 2) (fun (u : Unit) => xW G a v mo ki pr df co bi g9 lr bf tn ln nx ct hv v0 k0 v1 k1 ++ [(oa, .inl (cI G, 1, .inl of))]) (xW G a v mo ki pr df co bi g9 lr bf tn ln nx ct hv v0 k0 v1 k1 ++ [(oa, .inl (cI G, 1, .inl of))]) H0) 1 6 (va_A (xW G a v mo ki pr df co bi g9 lr bf tn ln nx ct hv v0 k0 v1 k1 ++ [(oa, .inl (cI G, 1, .inl of))]) H0.size) := by
  refine enterHX (cc := cL_changes) (maxL := 7) (ret := some .int) (own := RL) (lv := [(0, .ref (a 0)), (1, .int (nI (1))), (2, .int (nI (p))), (3, .int (x0)), (4, .int (c9)), (5, .ref oa)]) (by decide) rfl rfl rfl (Nat.le_of_ble_eq_true rfl) ?_
  intro pg ev s m below meth c hx hb hr hts hown hlocks hml htab hH hCX ls hl
  subst hH
  have hC := hCX.1
  have hLo := va_freeB hB0 hC.2.2.2.1
  have hD := hB0.self (sz := s.heap.size)
  have hS : va_S (va_A (xW G a v mo ki pr df co bi g9 lr bf tn ln nx ct hv v0 k0 v1 k1 ++ [(oa, .inl (cI G, 1, .inl of))]) s.heap.size) s.heap s.heap [] := va_S.rf
  unfold qMi
  generalize hAe : va_A (xW G a v mo ki pr df co bi g9 lr bf tn ln nx ct hv v0 k0 v1 k1 ++ [(oa, .inl (cI G, 1, .inl of))]) s.heap.size = A at hD hLo hS ⊢
  have hA : ∀ q, s.heap.size ≤ q → A q := fun q h => by rw [← hAe]; exact Or.inr h
  generalize ([] : List Loc) = locs at hS ⊢
  have hP := hP0
  refine lv_aload hx hb dL_changes_0 (lv_at hl 5 rfl) ?_
  refine lv_iconst (v := nI (0)) hx hb dL_changes_2 (by decide) ?_
  refine lv_iload_n hx hb dL_changes_3 rfl (lv_at hl 1 rfl) ?_
  refine lv_if_ne (tgt := 16) hx hb dL_changes_4 (by decide) (fun c_1 => ?_) (fun c_1 => ?_)
  · have f_2 : ¬ (1 : Int) = (0 : Int) := fun z => c_1 ((c_eq (nI_toInt (n := 1) (by omega)) rfl).mpr z)
    refine lv_iload_n hx hb dL_changes_16 rfl (lv_at hl 1 rfl) ?_
    refine lv_iconst (v := nI (1)) hx hb dL_changes_17 (by decide) ?_
    refine lv_icmp_ne (tgt := 40) hx hb dL_changes_18 (by decide) (fun c_3 => ?_) (fun c_3 => ?_)
    · have f_4 := c_3
      exact absurd rfl f_4
    · have f_5 := c_3
      refine lv_aload_n hx hb dL_changes_21 rfl (lv_at hl 0 rfl) ?_
      refine lv_iload_n hx hb dL_changes_22 rfl (lv_at hl 2 rfl) ?_
      refine lv_iload_n hx hb dL_changes_23 rfl (lv_at hl 3 rfl) ?_
      refine lv_iload hx hb dL_changes_24 (lv_at hl 4 rfl) ?_
      refine lv_bipush (v := nI (100)) hx hb dL_changes_26 (by decide) ?_
      refine gDiv (z := x1) hx hb dL_changes_28 (nI_ne0 (by omega) (by omega)) (hc1) ?_
      refine lv_iload hx hb dL_changes_29 (lv_at hl 4 rfl) ?_
      refine lv_bipush (v := nI (100)) hx hb dL_changes_31 (by decide) ?_
      refine gRem (z := x2) hx hb dL_changes_33 (nI_ne0 (by omega) (by omega)) (hc2) ?_
      refine tCatch (hh := [(0, 95, 98, 32), (0, 95, 102, 34), (0, 95, 106, 36)]) (own := RL) (name := "java/lang/IllegalArgumentException") (vx_runV (As := [.int (nI (p)), .int (x0), .int (x1), .int (x2)]) (rest := [.int (nI (0)), .ref oa]) ⟨hx, hb, hml, hown, hts⟩ (c_X8_fill_x2b (a 0) p x0 x1 x2 (by first | assumption | omega) (by first | assumption | omega) (by first | assumption | omega) hfl) (cwV 4 hts gL_changes_X8_fill rfl rfl rfl (by decide +kernel) ⟨Nat.le_of_ble_eq_true rfl, Nat.le_of_ble_eq_true rfl⟩) (preVX hCX hS hLo hP (ci := 7) (q0 := 0) rfl rfl) rfl rfl hl.1 rfl (lv_room (Nat.le_of_ble_eq_true rfl)) dL_changes_34 ⟨Nat.le_of_ble_eq_true rfl, Nat.le_of_ble_eq_true rfl⟩) hP hS hown htab [⟨0, 95, 98, 32⟩] ⟨0, 95, 102, 34⟩ [⟨0, 95, 106, 36⟩] rfl (fun z hz => by rcases List.mem_singleton.mp hz with rfl; exact Or.inr ⟨by decide, "java/lang/IndexOutOfBoundsException", (hts (.classLink RL 32 "java/lang/IndexOutOfBoundsException") (by decide +kernel)), hC.nc 0 rfl⟩) (by decide) (by decide) (hts (.classLink RL 34 "java/lang/IllegalArgumentException") (by decide +kernel)) (hC.nest 81 rfl) (fun q_6 H locs hP hS => ?_)
      refine lv_astore (lv' := [(6, .ref q_6), (0, .ref (a 0)), (1, .int (nI (1))), (2, .int (nI (p))), (3, .int (x0)), (4, .int (c9)), (5, .ref oa)]) hx hb dL_changes_102 hl (by decide) rfl (fun ls hl => ?_)
      refine lv_iconst (v := nI (2)) hx hb dL_changes_104 (by decide) ?_
      exact xMi (G := G) (post := (fun (r : Int32) (u : Unit) => r = nI 2)) (w1 := (fun (u : Unit) => xW G a v mo ki pr df co bi g9 lr bf tn ln nx ct hv v0 k0 v1 k1 ++ [(oa, .inl (cI G, 1, .inl of))])) (()) hx hb hr hlocks hP hS (by exact rfl) (by exact rfl) dL_changes_105
  · have f_7 : (1 : Int) = (0 : Int) := (c_eq (nI_toInt (n := 1) (by omega)) rfl).mp c_1
    exfalso; omega

set_option maxHeartbeats 4000000 in
set_option maxRecDepth 100000 in
theorem c_L_chg_1_x2c {l : Launch} {G : GT} {H0 : Heap} (a : Nat → Nat) (v : SVT) (mo ki : Nat → Nat) (pr df : Nat → Int) (co : Int32) (bi : Nat) (g9 : Nat → Int32) (lr : Nat) (bf : Nat → Int) (tn : Nat → Nat) (ln nx ct : Nat) (hv : Nat → SVT) (v0 : SVT) (k0 : Nat) (v1 : SVT) (k1 : Nat) (oa : Nat) (of : Nat → Int32) (p : Nat) (x0 x1 x2 : Int32) (c9 : Int32) (hp : p < 64) (h0 : 1 ≤ x0.toInt ∧ x0.toInt ≤ 8) (h1 : 1 ≤ x1.toInt ∧ x1.toInt ≤ 8) (hbad : x2.toInt < 0 ∨ 15 < x2.toInt) (hc1 : c9 / nI 100 = x1) (hc2 : c9 - c9 / nI 100 * nI 100 = x2) (hfl : l.stackTraces = false) (hP0 : PP G (xW G a v mo ki pr df co bi g9 lr bf tn ln nx ct hv v0 k0 v1 k1 ++ [(oa, .inl (cI G, 1, .inl of))]) H0) (hB0 : va_D (lo G) (xW G a v mo ki pr df co bi g9 lr bf tn ln nx ct hv v0 k0 v1 k1 ++ [(oa, .inl (cI G, 1, .inl of))])) : Met l yL_changes wsL_changes ({ frames := 8, cells := 1, slots := 6, locals := 128 } : Room) (pcX G [.ref (a 0), .int (nI (1)), .int (nI (p)), .int (x0), .int (c9), .ref oa] H0) (qMi G (fun (r : Int32) (u : Unit) => r = nI 2) (fun (u : Unit) => xW G a v mo ki pr df co bi g9 lr bf tn ln nx ct hv v0 k0 v1 k1 ++ [(oa, .inl (cI G, 1, .inl of))]) (xW G a v mo ki pr df co bi g9 lr bf tn ln nx ct hv v0 k0 v1 k1 ++ [(oa, .inl (cI G, 1, .inl of))]) H0) 1 6 (va_A (xW G a v mo ki pr df co bi g9 lr bf tn ln nx ct hv v0 k0 v1 k1 ++ [(oa, .inl (cI G, 1, .inl of))]) H0.size) := by
  refine enterHX (cc := cL_changes) (maxL := 7) (ret := some .int) (own := RL) (lv := [(0, .ref (a 0)), (1, .int (nI (1))), (2, .int (nI (p))), (3, .int (x0)), (4, .int (c9)), (5, .ref oa)]) (by decide) rfl rfl rfl (Nat.le_of_ble_eq_true rfl) ?_
  intro pg ev s m below meth c hx hb hr hts hown hlocks hml htab hH hCX ls hl
  subst hH
  have hC := hCX.1
  have hLo := va_freeB hB0 hC.2.2.2.1
  have hD := hB0.self (sz := s.heap.size)
  have hS : va_S (va_A (xW G a v mo ki pr df co bi g9 lr bf tn ln nx ct hv v0 k0 v1 k1 ++ [(oa, .inl (cI G, 1, .inl of))]) s.heap.size) s.heap s.heap [] := va_S.rf
  unfold qMi
  generalize hAe : va_A (xW G a v mo ki pr df co bi g9 lr bf tn ln nx ct hv v0 k0 v1 k1 ++ [(oa, .inl (cI G, 1, .inl of))]) s.heap.size = A at hD hLo hS ⊢
  have hA : ∀ q, s.heap.size ≤ q → A q := fun q h => by rw [← hAe]; exact Or.inr h
  generalize ([] : List Loc) = locs at hS ⊢
  have hP := hP0
  refine lv_aload hx hb dL_changes_0 (lv_at hl 5 rfl) ?_
  refine lv_iconst (v := nI (0)) hx hb dL_changes_2 (by decide) ?_
  refine lv_iload_n hx hb dL_changes_3 rfl (lv_at hl 1 rfl) ?_
  refine lv_if_ne (tgt := 16) hx hb dL_changes_4 (by decide) (fun c_1 => ?_) (fun c_1 => ?_)
  · have f_2 : ¬ (1 : Int) = (0 : Int) := fun z => c_1 ((c_eq (nI_toInt (n := 1) (by omega)) rfl).mpr z)
    refine lv_iload_n hx hb dL_changes_16 rfl (lv_at hl 1 rfl) ?_
    refine lv_iconst (v := nI (1)) hx hb dL_changes_17 (by decide) ?_
    refine lv_icmp_ne (tgt := 40) hx hb dL_changes_18 (by decide) (fun c_3 => ?_) (fun c_3 => ?_)
    · have f_4 := c_3
      exact absurd rfl f_4
    · have f_5 := c_3
      refine lv_aload_n hx hb dL_changes_21 rfl (lv_at hl 0 rfl) ?_
      refine lv_iload_n hx hb dL_changes_22 rfl (lv_at hl 2 rfl) ?_
      refine lv_iload_n hx hb dL_changes_23 rfl (lv_at hl 3 rfl) ?_
      refine lv_iload hx hb dL_changes_24 (lv_at hl 4 rfl) ?_
      refine lv_bipush (v := nI (100)) hx hb dL_changes_26 (by decide) ?_
      refine gDiv (z := x1) hx hb dL_changes_28 (nI_ne0 (by omega) (by omega)) (hc1) ?_
      refine lv_iload hx hb dL_changes_29 (lv_at hl 4 rfl) ?_
      refine lv_bipush (v := nI (100)) hx hb dL_changes_31 (by decide) ?_
      refine gRem (z := x2) hx hb dL_changes_33 (nI_ne0 (by omega) (by omega)) (hc2) ?_
      refine tCatch (hh := [(0, 95, 98, 32), (0, 95, 102, 34), (0, 95, 106, 36)]) (own := RL) (name := "java/lang/IllegalArgumentException") (vx_runV (As := [.int (nI (p)), .int (x0), .int (x1), .int (x2)]) (rest := [.int (nI (0)), .ref oa]) ⟨hx, hb, hml, hown, hts⟩ (c_X8_fill_x2c (a 0) p x0 x1 x2 (by first | assumption | omega) (by first | assumption | omega) (by first | assumption | omega) (by first | assumption | omega) hfl) (cwV 4 hts gL_changes_X8_fill rfl rfl rfl (by decide +kernel) ⟨Nat.le_of_ble_eq_true rfl, Nat.le_of_ble_eq_true rfl⟩) (preVX hCX hS hLo hP (ci := 7) (q0 := 0) rfl rfl) rfl rfl hl.1 rfl (lv_room (Nat.le_of_ble_eq_true rfl)) dL_changes_34 ⟨Nat.le_of_ble_eq_true rfl, Nat.le_of_ble_eq_true rfl⟩) hP hS hown htab [⟨0, 95, 98, 32⟩] ⟨0, 95, 102, 34⟩ [⟨0, 95, 106, 36⟩] rfl (fun z hz => by rcases List.mem_singleton.mp hz with rfl; exact Or.inr ⟨by decide, "java/lang/IndexOutOfBoundsException", (hts (.classLink RL 32 "java/lang/IndexOutOfBoundsException") (by decide +kernel)), hC.nc 0 rfl⟩) (by decide) (by decide) (hts (.classLink RL 34 "java/lang/IllegalArgumentException") (by decide +kernel)) (hC.nest 81 rfl) (fun q_6 H locs hP hS => ?_)
      refine lv_astore (lv' := [(6, .ref q_6), (0, .ref (a 0)), (1, .int (nI (1))), (2, .int (nI (p))), (3, .int (x0)), (4, .int (c9)), (5, .ref oa)]) hx hb dL_changes_102 hl (by decide) rfl (fun ls hl => ?_)
      refine lv_iconst (v := nI (2)) hx hb dL_changes_104 (by decide) ?_
      exact xMi (G := G) (post := (fun (r : Int32) (u : Unit) => r = nI 2)) (w1 := (fun (u : Unit) => xW G a v mo ki pr df co bi g9 lr bf tn ln nx ct hv v0 k0 v1 k1 ++ [(oa, .inl (cI G, 1, .inl of))])) (()) hx hb hr hlocks hP hS (by exact rfl) (by exact rfl) dL_changes_105
  · have f_7 : (1 : Int) = (0 : Int) := (c_eq (nI_toInt (n := 1) (by omega)) rfl).mp c_1
    exfalso; omega

set_option maxHeartbeats 4000000 in
set_option maxRecDepth 100000 in
theorem c_L_chg_2 {l : Launch} {G : GT} {H0 : Heap} (a : Nat → Nat) (v : SVT) (mo ki : Nat → Nat) (pr df : Nat → Int) (co : Int32) (bi : Nat) (g9 : Nat → Int32) (lr : Nat) (bf : Nat → Int) (tn : Nat → Nat) (ln nx ct : Nat) (hv : Nat → SVT) (v0 : SVT) (k0 : Nat) (v1 : SVT) (k1 : Nat) (oa : Nat) (of : Nat → Int32) (dy dx : Int) (c9 : Int32) (hnx : nx < 6) (hct : ct ≤ 6) (hdy : -2 ≤ dy ∧ dy ≤ 2) (hdx : -2 ≤ dx ∧ dx ≤ 2) (hd : R15 v.1) (hfl : l.stackTraces = false) (hP0 : PP G (xW G a v mo ki pr df co bi g9 lr bf tn ln nx ct hv v0 k0 v1 k1 ++ [(oa, .inl (cI G, 1, .inl of))]) H0) (hB0 : va_D (lo G) (xW G a v mo ki pr df co bi g9 lr bf tn ln nx ct hv v0 k0 v1 k1 ++ [(oa, .inl (cI G, 1, .inl of))])) : Met l yL_changes wsL_changes ({ frames := 5, cells := 0, slots := 0, locals := 110 } : Room) (pcX G [.ref (a 0), .int (nI (2)), .int (iI (dy)), .int (iI (dx)), .int (c9), .ref oa] H0) (qMi G (fun (r : Int32) (u : Unit) => r = nI 0) (fun (u : Unit) => xW G a ((tkm v.1 dy dx v.1 64).1, v.2.1, v.2.2.1, v.2.2.2.1, v.2.2.2.2.1, v.2.2.2.2.2.1, v.2.2.2.2.2.2.1, v.2.2.2.2.2.2.2.1, v.2.2.2.2.2.2.2.2.1, v.2.2.2.2.2.2.2.2.2) mo ki pr df co bi g9 lr v.1 tn ln ((nx + 1) % 6) (min (ct + 1) 6) (va_up hv nx v) v0 k0 v1 k1 ++ [(oa, .inl (cI G, 1, .inl (upd of 0 (nI ((tkm v.1 dy dx v.1 64).2)))))]) (xW G a v mo ki pr df co bi g9 lr bf tn ln nx ct hv v0 k0 v1 k1 ++ [(oa, .inl (cI G, 1, .inl of))]) H0) 0 0 (va_A (xW G a v mo ki pr df co bi g9 lr bf tn ln nx ct hv v0 k0 v1 k1 ++ [(oa, .inl (cI G, 1, .inl of))]) H0.size) := by
  refine enterHX (cc := cL_changes) (maxL := 7) (ret := some .int) (own := RL) (lv := [(0, .ref (a 0)), (1, .int (nI (2))), (2, .int (iI (dy))), (3, .int (iI (dx))), (4, .int (c9)), (5, .ref oa)]) (by decide) rfl rfl rfl (Nat.le_of_ble_eq_true rfl) ?_
  intro pg ev s m below meth c hx hb hr hts hown hlocks hml htab hH hCX ls hl
  subst hH
  have hC := hCX.1
  have hLo := va_freeB hB0 hC.2.2.2.1
  have hD := hB0.self (sz := s.heap.size)
  have hS : va_S (va_A (xW G a v mo ki pr df co bi g9 lr bf tn ln nx ct hv v0 k0 v1 k1 ++ [(oa, .inl (cI G, 1, .inl of))]) s.heap.size) s.heap s.heap [] := va_S.rf
  unfold qMi
  generalize hAe : va_A (xW G a v mo ki pr df co bi g9 lr bf tn ln nx ct hv v0 k0 v1 k1 ++ [(oa, .inl (cI G, 1, .inl of))]) s.heap.size = A at hD hLo hS ⊢
  have hA : ∀ q, s.heap.size ≤ q → A q := fun q h => by rw [← hAe]; exact Or.inr h
  generalize ([] : List Loc) = locs at hS ⊢
  have hP := hP0
  refine lv_aload hx hb dL_changes_0 (lv_at hl 5 rfl) ?_
  refine lv_iconst (v := nI (0)) hx hb dL_changes_2 (by decide) ?_
  refine lv_iload_n hx hb dL_changes_3 rfl (lv_at hl 1 rfl) ?_
  refine lv_if_ne (tgt := 16) hx hb dL_changes_4 (by decide) (fun c_1 => ?_) (fun c_1 => ?_)
  · have f_2 : ¬ (2 : Int) = (0 : Int) := fun z => c_1 ((c_eq (nI_toInt (n := 2) (by omega)) rfl).mpr z)
    refine lv_iload_n hx hb dL_changes_16 rfl (lv_at hl 1 rfl) ?_
    refine lv_iconst (v := nI (1)) hx hb dL_changes_17 (by decide) ?_
    refine lv_icmp_ne (tgt := 40) hx hb dL_changes_18 (by decide) (fun c_3 => ?_) (fun c_3 => ?_)
    · have f_4 : ¬ (2 : Int) = (1 : Int) := fun z => c_3 ((c_eq (nI_toInt (n := 2) (by omega)) (nI_toInt (n := 1) (by omega))).mpr z)
      refine lv_iload_n hx hb dL_changes_40 rfl (lv_at hl 1 rfl) ?_
      refine lv_iconst (v := nI (2)) hx hb dL_changes_41 (by decide) ?_
      refine lv_icmp_ne (tgt := 54) hx hb dL_changes_42 (by decide) (fun c_5 => ?_) (fun c_5 => ?_)
      · have f_6 := c_5
        exact absurd rfl f_6
      · have f_7 := c_5
        refine lv_aload_n hx hb dL_changes_45 rfl (lv_at hl 0 rfl) ?_
        refine lv_iload_n hx hb dL_changes_46 rfl (lv_at hl 2 rfl) ?_
        refine lv_iload_n hx hb dL_changes_47 rfl (lv_at hl 3 rfl) ?_
        refine kPreI (va_runV (As := [.int (iI (dy)), .int (iI (dx))]) (rest := [.int (nI (0)), .ref oa]) ⟨hx, hb, hml, hown, hts⟩ (c_X8_scroll a v mo ki pr df co bi g9 lr bf tn ln nx ct hv v0 k0 v1 k1 dy dx (by first | assumption | omega) (by first | assumption | omega) (by first | assumption | omega) (by first | assumption | omega) (by first | assumption | omega) (pre_P hP) ((pre_D hD).weaken (fun _ _ _ h => hLo _ h))) (cwV 2 hts gL_changes_X8_scroll rfl rfl rfl (by decide +kernel) ⟨Nat.le_of_ble_eq_true rfl, Nat.le_of_ble_eq_true rfl⟩) (preV hC hS hLo hP (ci := 7) (q0 := 0) rfl rfl) rfl rfl hl.1 rfl (lv_room (Nat.le_of_ble_eq_true rfl)) dL_changes_48 ⟨Nat.zero_le _, Nat.zero_le _⟩) hP hD hS hA (fun _ => rfl) (fun r_10 u_8 H locs q_9 hP hD hS => ?_)
        have hP : PP G (xW G a ((tkm v.1 dy dx v.1 64).1, v.2.1, v.2.2.1, v.2.2.2.1, v.2.2.2.2.1, v.2.2.2.2.2.1, v.2.2.2.2.2.2.1, v.2.2.2.2.2.2.2.1, v.2.2.2.2.2.2.2.2.1, v.2.2.2.2.2.2.2.2.2) mo ki pr df co bi g9 lr v.1 tn ln ((nx + 1) % 6) (min (ct + 1) 6) (va_up hv nx v) v0 k0 v1 k1 ++ [(oa, .inl (cI G, 1, .inl of))]) H := hP
        have hD : va_D A (xW G a ((tkm v.1 dy dx v.1 64).1, v.2.1, v.2.2.1, v.2.2.2.1, v.2.2.2.2.1, v.2.2.2.2.2.1, v.2.2.2.2.2.2.1, v.2.2.2.2.2.2.2.1, v.2.2.2.2.2.2.2.2.1, v.2.2.2.2.2.2.2.2.2) mo ki pr df co bi g9 lr v.1 tn ln ((nx + 1) % 6) (min (ct + 1) 6) (va_up hv nx v) v0 k0 v1 k1 ++ [(oa, .inl (cI G, 1, .inl of))]) := hD
        refine topE (v' := nI ((tkm v.1 dy dx v.1 64).2)) (q_9) ?_
        refine lv_goto (tgt := 94) hx hb dL_changes_51 (by decide) ?_
        refine gOutI hx hb hC.K hP hD hS dL_changes_94 (fun H locs hP hD hS => ?_)
        have hP : PP G (xW G a ((tkm v.1 dy dx v.1 64).1, v.2.1, v.2.2.1, v.2.2.2.1, v.2.2.2.2.1, v.2.2.2.2.2.1, v.2.2.2.2.2.2.1, v.2.2.2.2.2.2.2.1, v.2.2.2.2.2.2.2.2.1, v.2.2.2.2.2.2.2.2.2) mo ki pr df co bi g9 lr v.1 tn ln ((nx + 1) % 6) (min (ct + 1) 6) (va_up hv nx v) v0 k0 v1 k1 ++ [(oa, .inl (cI G, 1, .inl (upd of 0 (nI ((tkm v.1 dy dx v.1 64).2)))))]) H := hP
        have hD : va_D A (xW G a ((tkm v.1 dy dx v.1 64).1, v.2.1, v.2.2.1, v.2.2.2.1, v.2.2.2.2.1, v.2.2.2.2.2.1, v.2.2.2.2.2.2.1, v.2.2.2.2.2.2.2.1, v.2.2.2.2.2.2.2.2.1, v.2.2.2.2.2.2.2.2.2) mo ki pr df co bi g9 lr v.1 tn ln ((nx + 1) % 6) (min (ct + 1) 6) (va_up hv nx v) v0 k0 v1 k1 ++ [(oa, .inl (cI G, 1, .inl (upd of 0 (nI ((tkm v.1 dy dx v.1 64).2)))))]) := hD
        refine lv_goto (tgt := 110) hx hb dL_changes_95 (by decide) ?_
        refine lv_iconst (v := nI (0)) hx hb dL_changes_110 (by decide) ?_
        exact xMi (G := G) (post := (fun (r : Int32) (u : Unit) => r = nI 0)) (w1 := (fun (u : Unit) => xW G a ((tkm v.1 dy dx v.1 64).1, v.2.1, v.2.2.1, v.2.2.2.1, v.2.2.2.2.1, v.2.2.2.2.2.1, v.2.2.2.2.2.2.1, v.2.2.2.2.2.2.2.1, v.2.2.2.2.2.2.2.2.1, v.2.2.2.2.2.2.2.2.2) mo ki pr df co bi g9 lr v.1 tn ln ((nx + 1) % 6) (min (ct + 1) 6) (va_up hv nx v) v0 k0 v1 k1 ++ [(oa, .inl (cI G, 1, .inl (upd of 0 (nI ((tkm v.1 dy dx v.1 64).2)))))])) (()) hx hb hr hlocks hP hS (by exact rfl) (by exact rfl) dL_changes_111
    · have f_11 : (2 : Int) = (1 : Int) := (c_eq (nI_toInt (n := 2) (by omega)) (nI_toInt (n := 1) (by omega))).mp c_3
      exfalso; omega
  · have f_12 : (2 : Int) = (0 : Int) := (c_eq (nI_toInt (n := 2) (by omega)) rfl).mp c_1
    exfalso; omega

set_option maxHeartbeats 4000000 in
set_option maxRecDepth 100000 in
theorem c_L_chg_2_x1a {l : Launch} {G : GT} {H0 : Heap} (a : Nat → Nat) (v : SVT) (mo ki : Nat → Nat) (pr df : Nat → Int) (co : Int32) (bi : Nat) (g9 : Nat → Int32) (lr : Nat) (bf : Nat → Int) (tn : Nat → Nat) (ln nx ct : Nat) (hv : Nat → SVT) (v0 : SVT) (k0 : Nat) (v1 : SVT) (k1 : Nat) (oa : Nat) (of : Nat → Int32) (x0 x1 : Int32) (c9 : Int32) (hbad : x0.toInt < -2 ∨ 2 < x0.toInt) (hfl : l.stackTraces = false) (hP0 : PP G (xW G a v mo ki pr df co bi g9 lr bf tn ln nx ct hv v0 k0 v1 k1 ++ [(oa, .inl (cI G, 1, .inl of))]) H0) (hB0 : va_D (lo G) (xW G a v mo ki pr df co bi g9 lr bf tn ln nx ct hv v0 k0 v1 k1 ++ [(oa, .inl (cI G, 1, .inl of))])) : Met l yL_changes wsL_changes ({ frames := 8, cells := 1, slots := 6, locals := 126 } : Room) (pcX G [.ref (a 0), .int (nI (2)), .int (x0), .int (x1), .int (c9), .ref oa] H0) (qMi G (fun (r : Int32) (u : Unit) => r = nI 2) (fun (u : Unit) => xW G a v mo ki pr df co bi g9 lr bf tn ln nx ct hv v0 k0 v1 k1 ++ [(oa, .inl (cI G, 1, .inl of))]) (xW G a v mo ki pr df co bi g9 lr bf tn ln nx ct hv v0 k0 v1 k1 ++ [(oa, .inl (cI G, 1, .inl of))]) H0) 1 6 (va_A (xW G a v mo ki pr df co bi g9 lr bf tn ln nx ct hv v0 k0 v1 k1 ++ [(oa, .inl (cI G, 1, .inl of))]) H0.size) := by
  refine enterHX (cc := cL_changes) (maxL := 7) (ret := some .int) (own := RL) (lv := [(0, .ref (a 0)), (1, .int (nI (2))), (2, .int (x0)), (3, .int (x1)), (4, .int (c9)), (5, .ref oa)]) (by decide) rfl rfl rfl (Nat.le_of_ble_eq_true rfl) ?_
  intro pg ev s m below meth c hx hb hr hts hown hlocks hml htab hH hCX ls hl
  subst hH
  have hC := hCX.1
  have hLo := va_freeB hB0 hC.2.2.2.1
  have hD := hB0.self (sz := s.heap.size)
  have hS : va_S (va_A (xW G a v mo ki pr df co bi g9 lr bf tn ln nx ct hv v0 k0 v1 k1 ++ [(oa, .inl (cI G, 1, .inl of))]) s.heap.size) s.heap s.heap [] := va_S.rf
  unfold qMi
  generalize hAe : va_A (xW G a v mo ki pr df co bi g9 lr bf tn ln nx ct hv v0 k0 v1 k1 ++ [(oa, .inl (cI G, 1, .inl of))]) s.heap.size = A at hD hLo hS ⊢
  have hA : ∀ q, s.heap.size ≤ q → A q := fun q h => by rw [← hAe]; exact Or.inr h
  generalize ([] : List Loc) = locs at hS ⊢
  have hP := hP0
  refine lv_aload hx hb dL_changes_0 (lv_at hl 5 rfl) ?_
  refine lv_iconst (v := nI (0)) hx hb dL_changes_2 (by decide) ?_
  refine lv_iload_n hx hb dL_changes_3 rfl (lv_at hl 1 rfl) ?_
  refine lv_if_ne (tgt := 16) hx hb dL_changes_4 (by decide) (fun c_1 => ?_) (fun c_1 => ?_)
  · have f_2 : ¬ (2 : Int) = (0 : Int) := fun z => c_1 ((c_eq (nI_toInt (n := 2) (by omega)) rfl).mpr z)
    refine lv_iload_n hx hb dL_changes_16 rfl (lv_at hl 1 rfl) ?_
    refine lv_iconst (v := nI (1)) hx hb dL_changes_17 (by decide) ?_
    refine lv_icmp_ne (tgt := 40) hx hb dL_changes_18 (by decide) (fun c_3 => ?_) (fun c_3 => ?_)
    · have f_4 : ¬ (2 : Int) = (1 : Int) := fun z => c_3 ((c_eq (nI_toInt (n := 2) (by omega)) (nI_toInt (n := 1) (by omega))).mpr z)
      refine lv_iload_n hx hb dL_changes_40 rfl (lv_at hl 1 rfl) ?_
      refine lv_iconst (v := nI (2)) hx hb dL_changes_41 (by decide) ?_
      refine lv_icmp_ne (tgt := 54) hx hb dL_changes_42 (by decide) (fun c_5 => ?_) (fun c_5 => ?_)
      · have f_6 := c_5
        exact absurd rfl f_6
      · have f_7 := c_5
        refine lv_aload_n hx hb dL_changes_45 rfl (lv_at hl 0 rfl) ?_
        refine lv_iload_n hx hb dL_changes_46 rfl (lv_at hl 2 rfl) ?_
        refine lv_iload_n hx hb dL_changes_47 rfl (lv_at hl 3 rfl) ?_
        refine tCatch (hh := [(0, 95, 98, 32), (0, 95, 102, 34), (0, 95, 106, 36)]) (own := RL) (name := "java/lang/IllegalArgumentException") (vx_runV (As := [.int (x0), .int (x1)]) (rest := [.int (nI (0)), .ref oa]) ⟨hx, hb, hml, hown, hts⟩ (c_X8_scroll_x1a (a 0) x0 x1 (by first | assumption | omega) hfl) (cwV 2 hts gL_changes_X8_scroll rfl rfl rfl (by decide +kernel) ⟨Nat.le_of_ble_eq_true rfl, Nat.le_of_ble_eq_true rfl⟩) (preVX hCX hS hLo hP (ci := 7) (q0 := 0) rfl rfl) rfl rfl hl.1 rfl (lv_room (Nat.le_of_ble_eq_true rfl)) dL_changes_48 ⟨Nat.le_of_ble_eq_true rfl, Nat.le_of_ble_eq_true rfl⟩) hP hS hown htab [⟨0, 95, 98, 32⟩] ⟨0, 95, 102, 34⟩ [⟨0, 95, 106, 36⟩] rfl (fun z hz => by rcases List.mem_singleton.mp hz with rfl; exact Or.inr ⟨by decide, "java/lang/IndexOutOfBoundsException", (hts (.classLink RL 32 "java/lang/IndexOutOfBoundsException") (by decide +kernel)), hC.nc 0 rfl⟩) (by decide) (by decide) (hts (.classLink RL 34 "java/lang/IllegalArgumentException") (by decide +kernel)) (hC.nest 81 rfl) (fun q_8 H locs hP hS => ?_)
        refine lv_astore (lv' := [(6, .ref q_8), (0, .ref (a 0)), (1, .int (nI (2))), (2, .int (x0)), (3, .int (x1)), (4, .int (c9)), (5, .ref oa)]) hx hb dL_changes_102 hl (by decide) rfl (fun ls hl => ?_)
        refine lv_iconst (v := nI (2)) hx hb dL_changes_104 (by decide) ?_
        exact xMi (G := G) (post := (fun (r : Int32) (u : Unit) => r = nI 2)) (w1 := (fun (u : Unit) => xW G a v mo ki pr df co bi g9 lr bf tn ln nx ct hv v0 k0 v1 k1 ++ [(oa, .inl (cI G, 1, .inl of))])) (()) hx hb hr hlocks hP hS (by exact rfl) (by exact rfl) dL_changes_105
    · have f_9 : (2 : Int) = (1 : Int) := (c_eq (nI_toInt (n := 2) (by omega)) (nI_toInt (n := 1) (by omega))).mp c_3
      exfalso; omega
  · have f_10 : (2 : Int) = (0 : Int) := (c_eq (nI_toInt (n := 2) (by omega)) rfl).mp c_1
    exfalso; omega

set_option maxHeartbeats 4000000 in
set_option maxRecDepth 100000 in
theorem c_L_chg_2_x1b {l : Launch} {G : GT} {H0 : Heap} (a : Nat → Nat) (v : SVT) (mo ki : Nat → Nat) (pr df : Nat → Int) (co : Int32) (bi : Nat) (g9 : Nat → Int32) (lr : Nat) (bf : Nat → Int) (tn : Nat → Nat) (ln nx ct : Nat) (hv : Nat → SVT) (v0 : SVT) (k0 : Nat) (v1 : SVT) (k1 : Nat) (oa : Nat) (of : Nat → Int32) (x0 x1 : Int32) (c9 : Int32) (h0 : -2 ≤ x0.toInt ∧ x0.toInt ≤ 2) (hbad : x1.toInt < -2 ∨ 2 < x1.toInt) (hfl : l.stackTraces = false) (hP0 : PP G (xW G a v mo ki pr df co bi g9 lr bf tn ln nx ct hv v0 k0 v1 k1 ++ [(oa, .inl (cI G, 1, .inl of))]) H0) (hB0 : va_D (lo G) (xW G a v mo ki pr df co bi g9 lr bf tn ln nx ct hv v0 k0 v1 k1 ++ [(oa, .inl (cI G, 1, .inl of))])) : Met l yL_changes wsL_changes ({ frames := 8, cells := 1, slots := 6, locals := 126 } : Room) (pcX G [.ref (a 0), .int (nI (2)), .int (x0), .int (x1), .int (c9), .ref oa] H0) (qMi G (fun (r : Int32) (u : Unit) => r = nI 2) (fun (u : Unit) => xW G a v mo ki pr df co bi g9 lr bf tn ln nx ct hv v0 k0 v1 k1 ++ [(oa, .inl (cI G, 1, .inl of))]) (xW G a v mo ki pr df co bi g9 lr bf tn ln nx ct hv v0 k0 v1 k1 ++ [(oa, .inl (cI G, 1, .inl of))]) H0) 1 6 (va_A (xW G a v mo ki pr df co bi g9 lr bf tn ln nx ct hv v0 k0 v1 k1 ++ [(oa, .inl (cI G, 1, .inl of))]) H0.size) := by
  refine enterHX (cc := cL_changes) (maxL := 7) (ret := some .int) (own := RL) (lv := [(0, .ref (a 0)), (1, .int (nI (2))), (2, .int (x0)), (3, .int (x1)), (4, .int (c9)), (5, .ref oa)]) (by decide) rfl rfl rfl (Nat.le_of_ble_eq_true rfl) ?_
  intro pg ev s m below meth c hx hb hr hts hown hlocks hml htab hH hCX ls hl
  subst hH
  have hC := hCX.1
  have hLo := va_freeB hB0 hC.2.2.2.1
  have hD := hB0.self (sz := s.heap.size)
  have hS : va_S (va_A (xW G a v mo ki pr df co bi g9 lr bf tn ln nx ct hv v0 k0 v1 k1 ++ [(oa, .inl (cI G, 1, .inl of))]) s.heap.size) s.heap s.heap [] := va_S.rf
  unfold qMi
  generalize hAe : va_A (xW G a v mo ki pr df co bi g9 lr bf tn ln nx ct hv v0 k0 v1 k1 ++ [(oa, .inl (cI G, 1, .inl of))]) s.heap.size = A at hD hLo hS ⊢
  have hA : ∀ q, s.heap.size ≤ q → A q := fun q h => by rw [← hAe]; exact Or.inr h
  generalize ([] : List Loc) = locs at hS ⊢
  have hP := hP0
  refine lv_aload hx hb dL_changes_0 (lv_at hl 5 rfl) ?_
  refine lv_iconst (v := nI (0)) hx hb dL_changes_2 (by decide) ?_
  refine lv_iload_n hx hb dL_changes_3 rfl (lv_at hl 1 rfl) ?_
  refine lv_if_ne (tgt := 16) hx hb dL_changes_4 (by decide) (fun c_1 => ?_) (fun c_1 => ?_)
  · have f_2 : ¬ (2 : Int) = (0 : Int) := fun z => c_1 ((c_eq (nI_toInt (n := 2) (by omega)) rfl).mpr z)
    refine lv_iload_n hx hb dL_changes_16 rfl (lv_at hl 1 rfl) ?_
    refine lv_iconst (v := nI (1)) hx hb dL_changes_17 (by decide) ?_
    refine lv_icmp_ne (tgt := 40) hx hb dL_changes_18 (by decide) (fun c_3 => ?_) (fun c_3 => ?_)
    · have f_4 : ¬ (2 : Int) = (1 : Int) := fun z => c_3 ((c_eq (nI_toInt (n := 2) (by omega)) (nI_toInt (n := 1) (by omega))).mpr z)
      refine lv_iload_n hx hb dL_changes_40 rfl (lv_at hl 1 rfl) ?_
      refine lv_iconst (v := nI (2)) hx hb dL_changes_41 (by decide) ?_
      refine lv_icmp_ne (tgt := 54) hx hb dL_changes_42 (by decide) (fun c_5 => ?_) (fun c_5 => ?_)
      · have f_6 := c_5
        exact absurd rfl f_6
      · have f_7 := c_5
        refine lv_aload_n hx hb dL_changes_45 rfl (lv_at hl 0 rfl) ?_
        refine lv_iload_n hx hb dL_changes_46 rfl (lv_at hl 2 rfl) ?_
        refine lv_iload_n hx hb dL_changes_47 rfl (lv_at hl 3 rfl) ?_
        refine tCatch (hh := [(0, 95, 98, 32), (0, 95, 102, 34), (0, 95, 106, 36)]) (own := RL) (name := "java/lang/IllegalArgumentException") (vx_runV (As := [.int (x0), .int (x1)]) (rest := [.int (nI (0)), .ref oa]) ⟨hx, hb, hml, hown, hts⟩ (c_X8_scroll_x1b (a 0) x0 x1 (by first | assumption | omega) (by first | assumption | omega) hfl) (cwV 2 hts gL_changes_X8_scroll rfl rfl rfl (by decide +kernel) ⟨Nat.le_of_ble_eq_true rfl, Nat.le_of_ble_eq_true rfl⟩) (preVX hCX hS hLo hP (ci := 7) (q0 := 0) rfl rfl) rfl rfl hl.1 rfl (lv_room (Nat.le_of_ble_eq_true rfl)) dL_changes_48 ⟨Nat.le_of_ble_eq_true rfl, Nat.le_of_ble_eq_true rfl⟩) hP hS hown htab [⟨0, 95, 98, 32⟩] ⟨0, 95, 102, 34⟩ [⟨0, 95, 106, 36⟩] rfl (fun z hz => by rcases List.mem_singleton.mp hz with rfl; exact Or.inr ⟨by decide, "java/lang/IndexOutOfBoundsException", (hts (.classLink RL 32 "java/lang/IndexOutOfBoundsException") (by decide +kernel)), hC.nc 0 rfl⟩) (by decide) (by decide) (hts (.classLink RL 34 "java/lang/IllegalArgumentException") (by decide +kernel)) (hC.nest 81 rfl) (fun q_8 H locs hP hS => ?_)
        refine lv_astore (lv' := [(6, .ref q_8), (0, .ref (a 0)), (1, .int (nI (2))), (2, .int (x0)), (3, .int (x1)), (4, .int (c9)), (5, .ref oa)]) hx hb dL_changes_102 hl (by decide) rfl (fun ls hl => ?_)
        refine lv_iconst (v := nI (2)) hx hb dL_changes_104 (by decide) ?_
        exact xMi (G := G) (post := (fun (r : Int32) (u : Unit) => r = nI 2)) (w1 := (fun (u : Unit) => xW G a v mo ki pr df co bi g9 lr bf tn ln nx ct hv v0 k0 v1 k1 ++ [(oa, .inl (cI G, 1, .inl of))])) (()) hx hb hr hlocks hP hS (by exact rfl) (by exact rfl) dL_changes_105
    · have f_9 : (2 : Int) = (1 : Int) := (c_eq (nI_toInt (n := 2) (by omega)) (nI_toInt (n := 1) (by omega))).mp c_3
      exfalso; omega
  · have f_10 : (2 : Int) = (0 : Int) := (c_eq (nI_toInt (n := 2) (by omega)) rfl).mp c_1
    exfalso; omega

set_option maxHeartbeats 4000000 in
set_option maxRecDepth 100000 in
theorem c_L_chg_3_n0 {l : Launch} {G : GT} {H0 : Heap} (a : Nat → Nat) (v : SVT) (mo ki : Nat → Nat) (pr df : Nat → Int) (co : Int32) (bi : Nat) (g9 : Nat → Int32) (lr : Nat) (bf : Nat → Int) (tn : Nat → Nat) (ln nx ct : Nat) (hv : Nat → SVT) (v0 : SVT) (k0 : Nat) (v1 : SVT) (k1 : Nat) (oa : Nat) (of : Nat → Int32) (b9 c9 : Int32) (hnx : nx < 6) (hct : ct ≤ 6) (hms : v.2.2.2.2.2.2.2.1 < 999) (hd : R15 v.1) (ht : R15 v.2.1) (hg : R15 v.2.2.1) (hdf : D15 df) (hmo : M25 mo) (hkd : 1 ≤ v.2.2.2.2.2.2.1 ∧ v.2.2.2.2.2.2.1 ≤ 20) (hpi : v.2.2.2.2.2.2.2.1 ≤ 999) (hkey : ¬ v.2.2.2.2.2.2.2.1 % v.2.2.2.2.2.2.1 = 0) (hbu : v.2.2.2.2.2.1 ≤ 300) (hfl : l.stackTraces = false) (hP0 : PP G (xW G a v mo ki pr df co bi g9 lr bf tn ln nx ct hv v0 k0 v1 k1 ++ [(oa, .inl (cI G, 1, .inl of))]) H0) (hB0 : va_D (lo G) (xW G a v mo ki pr df co bi g9 lr bf tn ln nx ct hv v0 k0 v1 k1 ++ [(oa, .inl (cI G, 1, .inl of))])) : Met l yL_changes wsL_changes ({ frames := 6, cells := 0, slots := 0, locals := 142 } : Room) (pcX G [.ref (a 0), .int (nI (3)), .int (nI (0)), .int (b9), .int (c9), .ref oa] H0) (qMi G (fun (r : Int32) (u : Unit) => r = nI 0) (fun (u : Unit) => xW G a (v.1, nT v.1 v.2.1 v.2.2.2.2.2.1, nG v.1 v.2.1 v.2.2.1 v.2.2.2.2.2.1, knN v.1 v.2.1 v.2.2.2.2.2.1, BEST v.1 v.2.1, v.2.2.2.2.2.1, v.2.2.2.2.2.2.1, v.2.2.2.2.2.2.2.1 + 1, v.2.2.2.2.2.2.2.2.1, v.2.2.2.2.2.2.2.2.2 + ABM v.1 v.2.1 (COM v.1 v.2.1 v.2.2.2.2.2.1) 4) (BEST v.1 v.2.1) (knN v.1 v.2.1 v.2.2.2.2.2.1) (pN v.1 v.2.1) (dN v.1 v.2.1) (nI (COM v.1 v.2.1 v.2.2.2.2.2.1)) (ABM v.1 v.2.1 (COM v.1 v.2.1 v.2.2.2.2.2.1) 4) g9 lr v.2.2.1 tn ln ((nx + 1) % 6) (min (ct + 1) 6) (va_up hv nx v) v0 k0 v1 k1 ++ [(oa, .inl (cI G, 1, .inl (upd of 0 (nI (ABM v.1 v.2.1 (COM v.1 v.2.1 v.2.2.2.2.2.1) 4)))))]) (xW G a v mo ki pr df co bi g9 lr bf tn ln nx ct hv v0 k0 v1 k1 ++ [(oa, .inl (cI G, 1, .inl of))]) H0) 0 0 (va_A (xW G a v mo ki pr df co bi g9 lr bf tn ln nx ct hv v0 k0 v1 k1 ++ [(oa, .inl (cI G, 1, .inl of))]) H0.size) := by
  refine enterHX (cc := cL_changes) (maxL := 7) (ret := some .int) (own := RL) (lv := [(0, .ref (a 0)), (1, .int (nI (3))), (2, .int (nI (0))), (3, .int (b9)), (4, .int (c9)), (5, .ref oa)]) (by decide) rfl rfl rfl (Nat.le_of_ble_eq_true rfl) ?_
  intro pg ev s m below meth c hx hb hr hts hown hlocks hml htab hH hCX ls hl
  subst hH
  have hC := hCX.1
  have hLo := va_freeB hB0 hC.2.2.2.1
  have hD := hB0.self (sz := s.heap.size)
  have hS : va_S (va_A (xW G a v mo ki pr df co bi g9 lr bf tn ln nx ct hv v0 k0 v1 k1 ++ [(oa, .inl (cI G, 1, .inl of))]) s.heap.size) s.heap s.heap [] := va_S.rf
  unfold qMi
  generalize hAe : va_A (xW G a v mo ki pr df co bi g9 lr bf tn ln nx ct hv v0 k0 v1 k1 ++ [(oa, .inl (cI G, 1, .inl of))]) s.heap.size = A at hD hLo hS ⊢
  have hA : ∀ q, s.heap.size ≤ q → A q := fun q h => by rw [← hAe]; exact Or.inr h
  generalize ([] : List Loc) = locs at hS ⊢
  have hP := hP0
  refine lv_aload hx hb dL_changes_0 (lv_at hl 5 rfl) ?_
  refine lv_iconst (v := nI (0)) hx hb dL_changes_2 (by decide) ?_
  refine lv_iload_n hx hb dL_changes_3 rfl (lv_at hl 1 rfl) ?_
  refine lv_if_ne (tgt := 16) hx hb dL_changes_4 (by decide) (fun c_1 => ?_) (fun c_1 => ?_)
  · have f_2 : ¬ (3 : Int) = (0 : Int) := fun z => c_1 ((c_eq (nI_toInt (n := 3) (by omega)) rfl).mpr z)
    refine lv_iload_n hx hb dL_changes_16 rfl (lv_at hl 1 rfl) ?_
    refine lv_iconst (v := nI (1)) hx hb dL_changes_17 (by decide) ?_
    refine lv_icmp_ne (tgt := 40) hx hb dL_changes_18 (by decide) (fun c_3 => ?_) (fun c_3 => ?_)
    · have f_4 : ¬ (3 : Int) = (1 : Int) := fun z => c_3 ((c_eq (nI_toInt (n := 3) (by omega)) (nI_toInt (n := 1) (by omega))).mpr z)
      refine lv_iload_n hx hb dL_changes_40 rfl (lv_at hl 1 rfl) ?_
      refine lv_iconst (v := nI (2)) hx hb dL_changes_41 (by decide) ?_
      refine lv_icmp_ne (tgt := 54) hx hb dL_changes_42 (by decide) (fun c_5 => ?_) (fun c_5 => ?_)
      · have f_6 : ¬ (3 : Int) = (2 : Int) := fun z => c_5 ((c_eq (nI_toInt (n := 3) (by omega)) (nI_toInt (n := 2) (by omega))).mpr z)
        refine lv_iload_n hx hb dL_changes_54 rfl (lv_at hl 1 rfl) ?_
        refine lv_iconst (v := nI (3)) hx hb dL_changes_55 (by decide) ?_
        refine lv_icmp_ne (tgt := 76) hx hb dL_changes_56 (by decide) (fun c_7 => ?_) (fun c_7 => ?_)
        · have f_8 := c_7
          exact absurd rfl f_8
        · have f_9 := c_7
          refine lv_aload_n hx hb dL_changes_59 rfl (lv_at hl 0 rfl) ?_
          refine lv_iload_n hx hb dL_changes_60 rfl (lv_at hl 2 rfl) ?_
          refine lv_iconst (v := nI (1)) hx hb dL_changes_61 (by decide) ?_
          refine lv_icmp_ne (tgt := 69) hx hb dL_changes_62 (by decide) (fun c_10 => ?_) (fun c_10 => ?_)
          · have f_11 : ¬ (0 : Int) = (1 : Int) := fun z => c_10 ((c_eq (nI_toInt (n := 0) (by omega)) (nI_toInt (n := 1) (by omega))).mpr z)
            refine lv_iconst (v := nI (0)) hx hb dL_changes_69 (by decide) ?_
            refine kPreI (va_runV (As := [.int (nI (0))]) (rest := [.int (nI (0)), .ref oa]) ⟨hx, hb, hml, hown, hts⟩ (c_X8_send_n0 a v mo ki pr df co bi g9 lr bf tn ln nx ct hv v0 k0 v1 k1 (by first | assumption | omega) (by first | assumption | omega) (by first | assumption | omega) (by first | assumption | omega) (by first | assumption | omega) (by first | assumption | omega) (by first | assumption | omega) (by first | assumption | omega) (by first | assumption | omega) (by first | assumption | omega) (by first | assumption | omega) (by first | assumption | omega) (pre_P hP) ((pre_D hD).weaken (fun _ _ _ h => hLo _ h))) (cwV 1 hts gL_changes_X8_send rfl rfl rfl (by decide +kernel) ⟨Nat.le_of_ble_eq_true rfl, Nat.le_of_ble_eq_true rfl⟩) (preV hC hS hLo hP (ci := 7) (q0 := 0) rfl rfl) rfl rfl hl.1 rfl (lv_room (Nat.le_of_ble_eq_true rfl)) dL_changes_70 ⟨Nat.zero_le _, Nat.zero_le _⟩) hP hD hS hA (fun _ => rfl) (fun r_14 u_12 H locs q_13 hP hD hS => ?_)
            have hP : PP G (xW G a (v.1, nT v.1 v.2.1 v.2.2.2.2.2.1, nG v.1 v.2.1 v.2.2.1 v.2.2.2.2.2.1, knN v.1 v.2.1 v.2.2.2.2.2.1, BEST v.1 v.2.1, v.2.2.2.2.2.1, v.2.2.2.2.2.2.1, v.2.2.2.2.2.2.2.1 + 1, v.2.2.2.2.2.2.2.2.1, v.2.2.2.2.2.2.2.2.2 + ABM v.1 v.2.1 (COM v.1 v.2.1 v.2.2.2.2.2.1) 4) (BEST v.1 v.2.1) (knN v.1 v.2.1 v.2.2.2.2.2.1) (pN v.1 v.2.1) (dN v.1 v.2.1) (nI (COM v.1 v.2.1 v.2.2.2.2.2.1)) (ABM v.1 v.2.1 (COM v.1 v.2.1 v.2.2.2.2.2.1) 4) g9 lr v.2.2.1 tn ln ((nx + 1) % 6) (min (ct + 1) 6) (va_up hv nx v) v0 k0 v1 k1 ++ [(oa, .inl (cI G, 1, .inl of))]) H := hP
            have hD : va_D A (xW G a (v.1, nT v.1 v.2.1 v.2.2.2.2.2.1, nG v.1 v.2.1 v.2.2.1 v.2.2.2.2.2.1, knN v.1 v.2.1 v.2.2.2.2.2.1, BEST v.1 v.2.1, v.2.2.2.2.2.1, v.2.2.2.2.2.2.1, v.2.2.2.2.2.2.2.1 + 1, v.2.2.2.2.2.2.2.2.1, v.2.2.2.2.2.2.2.2.2 + ABM v.1 v.2.1 (COM v.1 v.2.1 v.2.2.2.2.2.1) 4) (BEST v.1 v.2.1) (knN v.1 v.2.1 v.2.2.2.2.2.1) (pN v.1 v.2.1) (dN v.1 v.2.1) (nI (COM v.1 v.2.1 v.2.2.2.2.2.1)) (ABM v.1 v.2.1 (COM v.1 v.2.1 v.2.2.2.2.2.1) 4) g9 lr v.2.2.1 tn ln ((nx + 1) % 6) (min (ct + 1) 6) (va_up hv nx v) v0 k0 v1 k1 ++ [(oa, .inl (cI G, 1, .inl of))]) := hD
            refine topE (v' := nI (ABM v.1 v.2.1 (COM v.1 v.2.1 v.2.2.2.2.2.1) 4)) (q_13) ?_
            refine lv_goto (tgt := 94) hx hb dL_changes_73 (by decide) ?_
            refine gOutI hx hb hC.K hP hD hS dL_changes_94 (fun H locs hP hD hS => ?_)
            have hP : PP G (xW G a (v.1, nT v.1 v.2.1 v.2.2.2.2.2.1, nG v.1 v.2.1 v.2.2.1 v.2.2.2.2.2.1, knN v.1 v.2.1 v.2.2.2.2.2.1, BEST v.1 v.2.1, v.2.2.2.2.2.1, v.2.2.2.2.2.2.1, v.2.2.2.2.2.2.2.1 + 1, v.2.2.2.2.2.2.2.2.1, v.2.2.2.2.2.2.2.2.2 + ABM v.1 v.2.1 (COM v.1 v.2.1 v.2.2.2.2.2.1) 4) (BEST v.1 v.2.1) (knN v.1 v.2.1 v.2.2.2.2.2.1) (pN v.1 v.2.1) (dN v.1 v.2.1) (nI (COM v.1 v.2.1 v.2.2.2.2.2.1)) (ABM v.1 v.2.1 (COM v.1 v.2.1 v.2.2.2.2.2.1) 4) g9 lr v.2.2.1 tn ln ((nx + 1) % 6) (min (ct + 1) 6) (va_up hv nx v) v0 k0 v1 k1 ++ [(oa, .inl (cI G, 1, .inl (upd of 0 (nI (ABM v.1 v.2.1 (COM v.1 v.2.1 v.2.2.2.2.2.1) 4)))))]) H := hP
            have hD : va_D A (xW G a (v.1, nT v.1 v.2.1 v.2.2.2.2.2.1, nG v.1 v.2.1 v.2.2.1 v.2.2.2.2.2.1, knN v.1 v.2.1 v.2.2.2.2.2.1, BEST v.1 v.2.1, v.2.2.2.2.2.1, v.2.2.2.2.2.2.1, v.2.2.2.2.2.2.2.1 + 1, v.2.2.2.2.2.2.2.2.1, v.2.2.2.2.2.2.2.2.2 + ABM v.1 v.2.1 (COM v.1 v.2.1 v.2.2.2.2.2.1) 4) (BEST v.1 v.2.1) (knN v.1 v.2.1 v.2.2.2.2.2.1) (pN v.1 v.2.1) (dN v.1 v.2.1) (nI (COM v.1 v.2.1 v.2.2.2.2.2.1)) (ABM v.1 v.2.1 (COM v.1 v.2.1 v.2.2.2.2.2.1) 4) g9 lr v.2.2.1 tn ln ((nx + 1) % 6) (min (ct + 1) 6) (va_up hv nx v) v0 k0 v1 k1 ++ [(oa, .inl (cI G, 1, .inl (upd of 0 (nI (ABM v.1 v.2.1 (COM v.1 v.2.1 v.2.2.2.2.2.1) 4)))))]) := hD
            refine lv_goto (tgt := 110) hx hb dL_changes_95 (by decide) ?_
            refine lv_iconst (v := nI (0)) hx hb dL_changes_110 (by decide) ?_
            exact xMi (G := G) (post := (fun (r : Int32) (u : Unit) => r = nI 0)) (w1 := (fun (u : Unit) => xW G a (v.1, nT v.1 v.2.1 v.2.2.2.2.2.1, nG v.1 v.2.1 v.2.2.1 v.2.2.2.2.2.1, knN v.1 v.2.1 v.2.2.2.2.2.1, BEST v.1 v.2.1, v.2.2.2.2.2.1, v.2.2.2.2.2.2.1, v.2.2.2.2.2.2.2.1 + 1, v.2.2.2.2.2.2.2.2.1, v.2.2.2.2.2.2.2.2.2 + ABM v.1 v.2.1 (COM v.1 v.2.1 v.2.2.2.2.2.1) 4) (BEST v.1 v.2.1) (knN v.1 v.2.1 v.2.2.2.2.2.1) (pN v.1 v.2.1) (dN v.1 v.2.1) (nI (COM v.1 v.2.1 v.2.2.2.2.2.1)) (ABM v.1 v.2.1 (COM v.1 v.2.1 v.2.2.2.2.2.1) 4) g9 lr v.2.2.1 tn ln ((nx + 1) % 6) (min (ct + 1) 6) (va_up hv nx v) v0 k0 v1 k1 ++ [(oa, .inl (cI G, 1, .inl (upd of 0 (nI (ABM v.1 v.2.1 (COM v.1 v.2.1 v.2.2.2.2.2.1) 4)))))])) (()) hx hb hr hlocks hP hS (by exact rfl) (by exact rfl) dL_changes_111
          · have f_15 : (0 : Int) = (1 : Int) := (c_eq (nI_toInt (n := 0) (by omega)) (nI_toInt (n := 1) (by omega))).mp c_10
            exfalso; omega
      · have f_16 : (3 : Int) = (2 : Int) := (c_eq (nI_toInt (n := 3) (by omega)) (nI_toInt (n := 2) (by omega))).mp c_5
        exfalso; omega
    · have f_17 : (3 : Int) = (1 : Int) := (c_eq (nI_toInt (n := 3) (by omega)) (nI_toInt (n := 1) (by omega))).mp c_3
      exfalso; omega
  · have f_18 : (3 : Int) = (0 : Int) := (c_eq (nI_toInt (n := 3) (by omega)) rfl).mp c_1
    exfalso; omega

set_option maxHeartbeats 4000000 in
set_option maxRecDepth 100000 in
theorem c_L_chg_3_n1 {l : Launch} {G : GT} {H0 : Heap} (a : Nat → Nat) (v : SVT) (mo ki : Nat → Nat) (pr df : Nat → Int) (co : Int32) (bi : Nat) (g9 : Nat → Int32) (lr : Nat) (bf : Nat → Int) (tn : Nat → Nat) (ln nx ct : Nat) (hv : Nat → SVT) (v0 : SVT) (k0 : Nat) (v1 : SVT) (k1 : Nat) (oa : Nat) (of : Nat → Int32) (b9 c9 : Int32) (hnx : nx < 6) (hct : ct ≤ 6) (hms : v.2.2.2.2.2.2.2.1 < 999) (hd : R15 v.1) (ht : R15 v.2.1) (hg : R15 v.2.2.1) (hdf : D15 df) (hmo : M25 mo) (hkd : 1 ≤ v.2.2.2.2.2.2.1 ∧ v.2.2.2.2.2.2.1 ≤ 20) (hpi : v.2.2.2.2.2.2.2.1 ≤ 999) (hkey : ¬ v.2.2.2.2.2.2.2.1 % v.2.2.2.2.2.2.1 = 0) (hbu : v.2.2.2.2.2.1 ≤ 300) (hfl : l.stackTraces = false) (hP0 : PP G (xW G a v mo ki pr df co bi g9 lr bf tn ln nx ct hv v0 k0 v1 k1 ++ [(oa, .inl (cI G, 1, .inl of))]) H0) (hB0 : va_D (lo G) (xW G a v mo ki pr df co bi g9 lr bf tn ln nx ct hv v0 k0 v1 k1 ++ [(oa, .inl (cI G, 1, .inl of))])) : Met l yL_changes wsL_changes ({ frames := 6, cells := 0, slots := 0, locals := 142 } : Room) (pcX G [.ref (a 0), .int (nI (3)), .int (nI (1)), .int (b9), .int (c9), .ref oa] H0) (qMi G (fun (r : Int32) (u : Unit) => r = nI 0) (fun (u : Unit) => xW G a (v.1, nT v.1 v.2.1 v.2.2.2.2.2.1, v.2.2.1, knN v.1 v.2.1 v.2.2.2.2.2.1, BEST v.1 v.2.1, v.2.2.2.2.2.1, v.2.2.2.2.2.2.1, v.2.2.2.2.2.2.2.1 + 1, v.2.2.2.2.2.2.2.2.1 + 1, v.2.2.2.2.2.2.2.2.2 + ABM v.1 v.2.1 (COM v.1 v.2.1 v.2.2.2.2.2.1) 4) (BEST v.1 v.2.1) (knN v.1 v.2.1 v.2.2.2.2.2.1) (pN v.1 v.2.1) (dN v.1 v.2.1) (nI (COM v.1 v.2.1 v.2.2.2.2.2.1)) (ABM v.1 v.2.1 (COM v.1 v.2.1 v.2.2.2.2.2.1) 4) g9 lr bf tn ln ((nx + 1) % 6) (min (ct + 1) 6) (va_up hv nx v) v0 k0 v1 k1 ++ [(oa, .inl (cI G, 1, .inl (upd of 0 (nI (ABM v.1 v.2.1 (COM v.1 v.2.1 v.2.2.2.2.2.1) 4)))))]) (xW G a v mo ki pr df co bi g9 lr bf tn ln nx ct hv v0 k0 v1 k1 ++ [(oa, .inl (cI G, 1, .inl of))]) H0) 0 0 (va_A (xW G a v mo ki pr df co bi g9 lr bf tn ln nx ct hv v0 k0 v1 k1 ++ [(oa, .inl (cI G, 1, .inl of))]) H0.size) := by
  refine enterHX (cc := cL_changes) (maxL := 7) (ret := some .int) (own := RL) (lv := [(0, .ref (a 0)), (1, .int (nI (3))), (2, .int (nI (1))), (3, .int (b9)), (4, .int (c9)), (5, .ref oa)]) (by decide) rfl rfl rfl (Nat.le_of_ble_eq_true rfl) ?_
  intro pg ev s m below meth c hx hb hr hts hown hlocks hml htab hH hCX ls hl
  subst hH
  have hC := hCX.1
  have hLo := va_freeB hB0 hC.2.2.2.1
  have hD := hB0.self (sz := s.heap.size)
  have hS : va_S (va_A (xW G a v mo ki pr df co bi g9 lr bf tn ln nx ct hv v0 k0 v1 k1 ++ [(oa, .inl (cI G, 1, .inl of))]) s.heap.size) s.heap s.heap [] := va_S.rf
  unfold qMi
  generalize hAe : va_A (xW G a v mo ki pr df co bi g9 lr bf tn ln nx ct hv v0 k0 v1 k1 ++ [(oa, .inl (cI G, 1, .inl of))]) s.heap.size = A at hD hLo hS ⊢
  have hA : ∀ q, s.heap.size ≤ q → A q := fun q h => by rw [← hAe]; exact Or.inr h
  generalize ([] : List Loc) = locs at hS ⊢
  have hP := hP0
  refine lv_aload hx hb dL_changes_0 (lv_at hl 5 rfl) ?_
  refine lv_iconst (v := nI (0)) hx hb dL_changes_2 (by decide) ?_
  refine lv_iload_n hx hb dL_changes_3 rfl (lv_at hl 1 rfl) ?_
  refine lv_if_ne (tgt := 16) hx hb dL_changes_4 (by decide) (fun c_1 => ?_) (fun c_1 => ?_)
  · have f_2 : ¬ (3 : Int) = (0 : Int) := fun z => c_1 ((c_eq (nI_toInt (n := 3) (by omega)) rfl).mpr z)
    refine lv_iload_n hx hb dL_changes_16 rfl (lv_at hl 1 rfl) ?_
    refine lv_iconst (v := nI (1)) hx hb dL_changes_17 (by decide) ?_
    refine lv_icmp_ne (tgt := 40) hx hb dL_changes_18 (by decide) (fun c_3 => ?_) (fun c_3 => ?_)
    · have f_4 : ¬ (3 : Int) = (1 : Int) := fun z => c_3 ((c_eq (nI_toInt (n := 3) (by omega)) (nI_toInt (n := 1) (by omega))).mpr z)
      refine lv_iload_n hx hb dL_changes_40 rfl (lv_at hl 1 rfl) ?_
      refine lv_iconst (v := nI (2)) hx hb dL_changes_41 (by decide) ?_
      refine lv_icmp_ne (tgt := 54) hx hb dL_changes_42 (by decide) (fun c_5 => ?_) (fun c_5 => ?_)
      · have f_6 : ¬ (3 : Int) = (2 : Int) := fun z => c_5 ((c_eq (nI_toInt (n := 3) (by omega)) (nI_toInt (n := 2) (by omega))).mpr z)
        refine lv_iload_n hx hb dL_changes_54 rfl (lv_at hl 1 rfl) ?_
        refine lv_iconst (v := nI (3)) hx hb dL_changes_55 (by decide) ?_
        refine lv_icmp_ne (tgt := 76) hx hb dL_changes_56 (by decide) (fun c_7 => ?_) (fun c_7 => ?_)
        · have f_8 := c_7
          exact absurd rfl f_8
        · have f_9 := c_7
          refine lv_aload_n hx hb dL_changes_59 rfl (lv_at hl 0 rfl) ?_
          refine lv_iload_n hx hb dL_changes_60 rfl (lv_at hl 2 rfl) ?_
          refine lv_iconst (v := nI (1)) hx hb dL_changes_61 (by decide) ?_
          refine lv_icmp_ne (tgt := 69) hx hb dL_changes_62 (by decide) (fun c_10 => ?_) (fun c_10 => ?_)
          · have f_11 := c_10
            exact absurd rfl f_11
          · have f_12 := c_10
            refine lv_iconst (v := nI (1)) hx hb dL_changes_65 (by decide) ?_
            refine lv_goto (tgt := 70) hx hb dL_changes_66 (by decide) ?_
            refine kPreI (va_runV (As := [.int (nI (1))]) (rest := [.int (nI (0)), .ref oa]) ⟨hx, hb, hml, hown, hts⟩ (c_X8_send_n1 a v mo ki pr df co bi g9 lr bf tn ln nx ct hv v0 k0 v1 k1 (by first | assumption | omega) (by first | assumption | omega) (by first | assumption | omega) (by first | assumption | omega) (by first | assumption | omega) (by first | assumption | omega) (by first | assumption | omega) (by first | assumption | omega) (by first | assumption | omega) (by first | assumption | omega) (by first | assumption | omega) (by first | assumption | omega) (pre_P hP) ((pre_D hD).weaken (fun _ _ _ h => hLo _ h))) (cwV 1 hts gL_changes_X8_send rfl rfl rfl (by decide +kernel) ⟨Nat.le_of_ble_eq_true rfl, Nat.le_of_ble_eq_true rfl⟩) (preV hC hS hLo hP (ci := 7) (q0 := 0) rfl rfl) rfl rfl hl.1 rfl (lv_room (Nat.le_of_ble_eq_true rfl)) dL_changes_70 ⟨Nat.zero_le _, Nat.zero_le _⟩) hP hD hS hA (fun _ => rfl) (fun r_15 u_13 H locs q_14 hP hD hS => ?_)
            have hP : PP G (xW G a (v.1, nT v.1 v.2.1 v.2.2.2.2.2.1, v.2.2.1, knN v.1 v.2.1 v.2.2.2.2.2.1, BEST v.1 v.2.1, v.2.2.2.2.2.1, v.2.2.2.2.2.2.1, v.2.2.2.2.2.2.2.1 + 1, v.2.2.2.2.2.2.2.2.1 + 1, v.2.2.2.2.2.2.2.2.2 + ABM v.1 v.2.1 (COM v.1 v.2.1 v.2.2.2.2.2.1) 4) (BEST v.1 v.2.1) (knN v.1 v.2.1 v.2.2.2.2.2.1) (pN v.1 v.2.1) (dN v.1 v.2.1) (nI (COM v.1 v.2.1 v.2.2.2.2.2.1)) (ABM v.1 v.2.1 (COM v.1 v.2.1 v.2.2.2.2.2.1) 4) g9 lr bf tn ln ((nx + 1) % 6) (min (ct + 1) 6) (va_up hv nx v) v0 k0 v1 k1 ++ [(oa, .inl (cI G, 1, .inl of))]) H := hP
            have hD : va_D A (xW G a (v.1, nT v.1 v.2.1 v.2.2.2.2.2.1, v.2.2.1, knN v.1 v.2.1 v.2.2.2.2.2.1, BEST v.1 v.2.1, v.2.2.2.2.2.1, v.2.2.2.2.2.2.1, v.2.2.2.2.2.2.2.1 + 1, v.2.2.2.2.2.2.2.2.1 + 1, v.2.2.2.2.2.2.2.2.2 + ABM v.1 v.2.1 (COM v.1 v.2.1 v.2.2.2.2.2.1) 4) (BEST v.1 v.2.1) (knN v.1 v.2.1 v.2.2.2.2.2.1) (pN v.1 v.2.1) (dN v.1 v.2.1) (nI (COM v.1 v.2.1 v.2.2.2.2.2.1)) (ABM v.1 v.2.1 (COM v.1 v.2.1 v.2.2.2.2.2.1) 4) g9 lr bf tn ln ((nx + 1) % 6) (min (ct + 1) 6) (va_up hv nx v) v0 k0 v1 k1 ++ [(oa, .inl (cI G, 1, .inl of))]) := hD
            refine topE (v' := nI (ABM v.1 v.2.1 (COM v.1 v.2.1 v.2.2.2.2.2.1) 4)) (q_14) ?_
            refine lv_goto (tgt := 94) hx hb dL_changes_73 (by decide) ?_
            refine gOutI hx hb hC.K hP hD hS dL_changes_94 (fun H locs hP hD hS => ?_)
            have hP : PP G (xW G a (v.1, nT v.1 v.2.1 v.2.2.2.2.2.1, v.2.2.1, knN v.1 v.2.1 v.2.2.2.2.2.1, BEST v.1 v.2.1, v.2.2.2.2.2.1, v.2.2.2.2.2.2.1, v.2.2.2.2.2.2.2.1 + 1, v.2.2.2.2.2.2.2.2.1 + 1, v.2.2.2.2.2.2.2.2.2 + ABM v.1 v.2.1 (COM v.1 v.2.1 v.2.2.2.2.2.1) 4) (BEST v.1 v.2.1) (knN v.1 v.2.1 v.2.2.2.2.2.1) (pN v.1 v.2.1) (dN v.1 v.2.1) (nI (COM v.1 v.2.1 v.2.2.2.2.2.1)) (ABM v.1 v.2.1 (COM v.1 v.2.1 v.2.2.2.2.2.1) 4) g9 lr bf tn ln ((nx + 1) % 6) (min (ct + 1) 6) (va_up hv nx v) v0 k0 v1 k1 ++ [(oa, .inl (cI G, 1, .inl (upd of 0 (nI (ABM v.1 v.2.1 (COM v.1 v.2.1 v.2.2.2.2.2.1) 4)))))]) H := hP
            have hD : va_D A (xW G a (v.1, nT v.1 v.2.1 v.2.2.2.2.2.1, v.2.2.1, knN v.1 v.2.1 v.2.2.2.2.2.1, BEST v.1 v.2.1, v.2.2.2.2.2.1, v.2.2.2.2.2.2.1, v.2.2.2.2.2.2.2.1 + 1, v.2.2.2.2.2.2.2.2.1 + 1, v.2.2.2.2.2.2.2.2.2 + ABM v.1 v.2.1 (COM v.1 v.2.1 v.2.2.2.2.2.1) 4) (BEST v.1 v.2.1) (knN v.1 v.2.1 v.2.2.2.2.2.1) (pN v.1 v.2.1) (dN v.1 v.2.1) (nI (COM v.1 v.2.1 v.2.2.2.2.2.1)) (ABM v.1 v.2.1 (COM v.1 v.2.1 v.2.2.2.2.2.1) 4) g9 lr bf tn ln ((nx + 1) % 6) (min (ct + 1) 6) (va_up hv nx v) v0 k0 v1 k1 ++ [(oa, .inl (cI G, 1, .inl (upd of 0 (nI (ABM v.1 v.2.1 (COM v.1 v.2.1 v.2.2.2.2.2.1) 4)))))]) := hD
            refine lv_goto (tgt := 110) hx hb dL_changes_95 (by decide) ?_
            refine lv_iconst (v := nI (0)) hx hb dL_changes_110 (by decide) ?_
            exact xMi (G := G) (post := (fun (r : Int32) (u : Unit) => r = nI 0)) (w1 := (fun (u : Unit) => xW G a (v.1, nT v.1 v.2.1 v.2.2.2.2.2.1, v.2.2.1, knN v.1 v.2.1 v.2.2.2.2.2.1, BEST v.1 v.2.1, v.2.2.2.2.2.1, v.2.2.2.2.2.2.1, v.2.2.2.2.2.2.2.1 + 1, v.2.2.2.2.2.2.2.2.1 + 1, v.2.2.2.2.2.2.2.2.2 + ABM v.1 v.2.1 (COM v.1 v.2.1 v.2.2.2.2.2.1) 4) (BEST v.1 v.2.1) (knN v.1 v.2.1 v.2.2.2.2.2.1) (pN v.1 v.2.1) (dN v.1 v.2.1) (nI (COM v.1 v.2.1 v.2.2.2.2.2.1)) (ABM v.1 v.2.1 (COM v.1 v.2.1 v.2.2.2.2.2.1) 4) g9 lr bf tn ln ((nx + 1) % 6) (min (ct + 1) 6) (va_up hv nx v) v0 k0 v1 k1 ++ [(oa, .inl (cI G, 1, .inl (upd of 0 (nI (ABM v.1 v.2.1 (COM v.1 v.2.1 v.2.2.2.2.2.1) 4)))))])) (()) hx hb hr hlocks hP hS (by exact rfl) (by exact rfl) dL_changes_111
      · have f_16 : (3 : Int) = (2 : Int) := (c_eq (nI_toInt (n := 3) (by omega)) (nI_toInt (n := 2) (by omega))).mp c_5
        exfalso; omega
    · have f_17 : (3 : Int) = (1 : Int) := (c_eq (nI_toInt (n := 3) (by omega)) (nI_toInt (n := 1) (by omega))).mp c_3
      exfalso; omega
  · have f_18 : (3 : Int) = (0 : Int) := (c_eq (nI_toInt (n := 3) (by omega)) rfl).mp c_1
    exfalso; omega

set_option maxHeartbeats 4000000 in
set_option maxRecDepth 100000 in
theorem c_L_chg_3_k0 {l : Launch} {G : GT} {H0 : Heap} (a : Nat → Nat) (v : SVT) (mo ki : Nat → Nat) (pr df : Nat → Int) (co : Int32) (bi : Nat) (g9 : Nat → Int32) (lr : Nat) (bf : Nat → Int) (tn : Nat → Nat) (ln nx ct : Nat) (hv : Nat → SVT) (v0 : SVT) (k0 : Nat) (v1 : SVT) (k1 : Nat) (oa : Nat) (of : Nat → Int32) (b9 c9 : Int32) (hnx : nx < 6) (hct : ct ≤ 6) (hms : v.2.2.2.2.2.2.2.1 < 999) (hkd : 1 ≤ v.2.2.2.2.2.2.1 ∧ v.2.2.2.2.2.2.1 ≤ 20) (hpi : v.2.2.2.2.2.2.2.1 ≤ 999) (hkey : v.2.2.2.2.2.2.2.1 % v.2.2.2.2.2.2.1 = 0) (hfl : l.stackTraces = false) (hP0 : PP G (xW G a v mo ki pr df co bi g9 lr bf tn ln nx ct hv v0 k0 v1 k1 ++ [(oa, .inl (cI G, 1, .inl of))]) H0) (hB0 : va_D (lo G) (xW G a v mo ki pr df co bi g9 lr bf tn ln nx ct hv v0 k0 v1 k1 ++ [(oa, .inl (cI G, 1, .inl of))])) : Met l yL_changes wsL_changes ({ frames := 5, cells := 0, slots := 0, locals := 113 } : Room) (pcX G [.ref (a 0), .int (nI (3)), .int (nI (0)), .int (b9), .int (c9), .ref oa] H0) (qMi G (fun (r : Int32) (u : Unit) => r = nI 0) (fun (u : Unit) => xW G a (v.1, v.1, v.1, fun _ => 0, mo, v.2.2.2.2.2.1, v.2.2.2.2.2.2.1, v.2.2.2.2.2.2.2.1 + 1, v.2.2.2.2.2.2.2.2.1, v.2.2.2.2.2.2.2.2.2 + 264) mo (fzK ki 4) pr df (iI (-1)) 264 g9 lr v.2.2.1 tn ln ((nx + 1) % 6) (min (ct + 1) 6) (va_up hv nx v) v0 k0 v1 k1 ++ [(oa, .inl (cI G, 1, .inl (upd of 0 (nI (264)))))]) (xW G a v mo ki pr df co bi g9 lr bf tn ln nx ct hv v0 k0 v1 k1 ++ [(oa, .inl (cI G, 1, .inl of))]) H0) 0 0 (va_A (xW G a v mo ki pr df co bi g9 lr bf tn ln nx ct hv v0 k0 v1 k1 ++ [(oa, .inl (cI G, 1, .inl of))]) H0.size) := by
  refine enterHX (cc := cL_changes) (maxL := 7) (ret := some .int) (own := RL) (lv := [(0, .ref (a 0)), (1, .int (nI (3))), (2, .int (nI (0))), (3, .int (b9)), (4, .int (c9)), (5, .ref oa)]) (by decide) rfl rfl rfl (Nat.le_of_ble_eq_true rfl) ?_
  intro pg ev s m below meth c hx hb hr hts hown hlocks hml htab hH hCX ls hl
  subst hH
  have hC := hCX.1
  have hLo := va_freeB hB0 hC.2.2.2.1
  have hD := hB0.self (sz := s.heap.size)
  have hS : va_S (va_A (xW G a v mo ki pr df co bi g9 lr bf tn ln nx ct hv v0 k0 v1 k1 ++ [(oa, .inl (cI G, 1, .inl of))]) s.heap.size) s.heap s.heap [] := va_S.rf
  unfold qMi
  generalize hAe : va_A (xW G a v mo ki pr df co bi g9 lr bf tn ln nx ct hv v0 k0 v1 k1 ++ [(oa, .inl (cI G, 1, .inl of))]) s.heap.size = A at hD hLo hS ⊢
  have hA : ∀ q, s.heap.size ≤ q → A q := fun q h => by rw [← hAe]; exact Or.inr h
  generalize ([] : List Loc) = locs at hS ⊢
  have hP := hP0
  refine lv_aload hx hb dL_changes_0 (lv_at hl 5 rfl) ?_
  refine lv_iconst (v := nI (0)) hx hb dL_changes_2 (by decide) ?_
  refine lv_iload_n hx hb dL_changes_3 rfl (lv_at hl 1 rfl) ?_
  refine lv_if_ne (tgt := 16) hx hb dL_changes_4 (by decide) (fun c_1 => ?_) (fun c_1 => ?_)
  · have f_2 : ¬ (3 : Int) = (0 : Int) := fun z => c_1 ((c_eq (nI_toInt (n := 3) (by omega)) rfl).mpr z)
    refine lv_iload_n hx hb dL_changes_16 rfl (lv_at hl 1 rfl) ?_
    refine lv_iconst (v := nI (1)) hx hb dL_changes_17 (by decide) ?_
    refine lv_icmp_ne (tgt := 40) hx hb dL_changes_18 (by decide) (fun c_3 => ?_) (fun c_3 => ?_)
    · have f_4 : ¬ (3 : Int) = (1 : Int) := fun z => c_3 ((c_eq (nI_toInt (n := 3) (by omega)) (nI_toInt (n := 1) (by omega))).mpr z)
      refine lv_iload_n hx hb dL_changes_40 rfl (lv_at hl 1 rfl) ?_
      refine lv_iconst (v := nI (2)) hx hb dL_changes_41 (by decide) ?_
      refine lv_icmp_ne (tgt := 54) hx hb dL_changes_42 (by decide) (fun c_5 => ?_) (fun c_5 => ?_)
      · have f_6 : ¬ (3 : Int) = (2 : Int) := fun z => c_5 ((c_eq (nI_toInt (n := 3) (by omega)) (nI_toInt (n := 2) (by omega))).mpr z)
        refine lv_iload_n hx hb dL_changes_54 rfl (lv_at hl 1 rfl) ?_
        refine lv_iconst (v := nI (3)) hx hb dL_changes_55 (by decide) ?_
        refine lv_icmp_ne (tgt := 76) hx hb dL_changes_56 (by decide) (fun c_7 => ?_) (fun c_7 => ?_)
        · have f_8 := c_7
          exact absurd rfl f_8
        · have f_9 := c_7
          refine lv_aload_n hx hb dL_changes_59 rfl (lv_at hl 0 rfl) ?_
          refine lv_iload_n hx hb dL_changes_60 rfl (lv_at hl 2 rfl) ?_
          refine lv_iconst (v := nI (1)) hx hb dL_changes_61 (by decide) ?_
          refine lv_icmp_ne (tgt := 69) hx hb dL_changes_62 (by decide) (fun c_10 => ?_) (fun c_10 => ?_)
          · have f_11 : ¬ (0 : Int) = (1 : Int) := fun z => c_10 ((c_eq (nI_toInt (n := 0) (by omega)) (nI_toInt (n := 1) (by omega))).mpr z)
            refine lv_iconst (v := nI (0)) hx hb dL_changes_69 (by decide) ?_
            refine kPreI (va_runV (As := [.int (nI (0))]) (rest := [.int (nI (0)), .ref oa]) ⟨hx, hb, hml, hown, hts⟩ (c_X8_send_k0 a v mo ki pr df co bi g9 lr bf tn ln nx ct hv v0 k0 v1 k1 (by first | assumption | omega) (by first | assumption | omega) (by first | assumption | omega) (by first | assumption | omega) (by first | assumption | omega) (by first | assumption | omega) (pre_P hP) ((pre_D hD).weaken (fun _ _ _ h => hLo _ h))) (cwV 1 hts gL_changes_X8_send rfl rfl rfl (by decide +kernel) ⟨Nat.le_of_ble_eq_true rfl, Nat.le_of_ble_eq_true rfl⟩) (preV hC hS hLo hP (ci := 7) (q0 := 0) rfl rfl) rfl rfl hl.1 rfl (lv_room (Nat.le_of_ble_eq_true rfl)) dL_changes_70 ⟨Nat.zero_le _, Nat.zero_le _⟩) hP hD hS hA (fun _ => rfl) (fun r_14 u_12 H locs q_13 hP hD hS => ?_)
            have hP : PP G (xW G a (v.1, v.1, v.1, fun _ => 0, mo, v.2.2.2.2.2.1, v.2.2.2.2.2.2.1, v.2.2.2.2.2.2.2.1 + 1, v.2.2.2.2.2.2.2.2.1, v.2.2.2.2.2.2.2.2.2 + 264) mo (fzK ki 4) pr df (iI (-1)) 264 g9 lr v.2.2.1 tn ln ((nx + 1) % 6) (min (ct + 1) 6) (va_up hv nx v) v0 k0 v1 k1 ++ [(oa, .inl (cI G, 1, .inl of))]) H := hP
            have hD : va_D A (xW G a (v.1, v.1, v.1, fun _ => 0, mo, v.2.2.2.2.2.1, v.2.2.2.2.2.2.1, v.2.2.2.2.2.2.2.1 + 1, v.2.2.2.2.2.2.2.2.1, v.2.2.2.2.2.2.2.2.2 + 264) mo (fzK ki 4) pr df (iI (-1)) 264 g9 lr v.2.2.1 tn ln ((nx + 1) % 6) (min (ct + 1) 6) (va_up hv nx v) v0 k0 v1 k1 ++ [(oa, .inl (cI G, 1, .inl of))]) := hD
            refine topE (v' := nI (264)) (q_13) ?_
            refine lv_goto (tgt := 94) hx hb dL_changes_73 (by decide) ?_
            refine gOutI hx hb hC.K hP hD hS dL_changes_94 (fun H locs hP hD hS => ?_)
            have hP : PP G (xW G a (v.1, v.1, v.1, fun _ => 0, mo, v.2.2.2.2.2.1, v.2.2.2.2.2.2.1, v.2.2.2.2.2.2.2.1 + 1, v.2.2.2.2.2.2.2.2.1, v.2.2.2.2.2.2.2.2.2 + 264) mo (fzK ki 4) pr df (iI (-1)) 264 g9 lr v.2.2.1 tn ln ((nx + 1) % 6) (min (ct + 1) 6) (va_up hv nx v) v0 k0 v1 k1 ++ [(oa, .inl (cI G, 1, .inl (upd of 0 (nI (264)))))]) H := hP
            have hD : va_D A (xW G a (v.1, v.1, v.1, fun _ => 0, mo, v.2.2.2.2.2.1, v.2.2.2.2.2.2.1, v.2.2.2.2.2.2.2.1 + 1, v.2.2.2.2.2.2.2.2.1, v.2.2.2.2.2.2.2.2.2 + 264) mo (fzK ki 4) pr df (iI (-1)) 264 g9 lr v.2.2.1 tn ln ((nx + 1) % 6) (min (ct + 1) 6) (va_up hv nx v) v0 k0 v1 k1 ++ [(oa, .inl (cI G, 1, .inl (upd of 0 (nI (264)))))]) := hD
            refine lv_goto (tgt := 110) hx hb dL_changes_95 (by decide) ?_
            refine lv_iconst (v := nI (0)) hx hb dL_changes_110 (by decide) ?_
            exact xMi (G := G) (post := (fun (r : Int32) (u : Unit) => r = nI 0)) (w1 := (fun (u : Unit) => xW G a (v.1, v.1, v.1, fun _ => 0, mo, v.2.2.2.2.2.1, v.2.2.2.2.2.2.1, v.2.2.2.2.2.2.2.1 + 1, v.2.2.2.2.2.2.2.2.1, v.2.2.2.2.2.2.2.2.2 + 264) mo (fzK ki 4) pr df (iI (-1)) 264 g9 lr v.2.2.1 tn ln ((nx + 1) % 6) (min (ct + 1) 6) (va_up hv nx v) v0 k0 v1 k1 ++ [(oa, .inl (cI G, 1, .inl (upd of 0 (nI (264)))))])) (()) hx hb hr hlocks hP hS (by exact rfl) (by exact rfl) dL_changes_111
          · have f_15 : (0 : Int) = (1 : Int) := (c_eq (nI_toInt (n := 0) (by omega)) (nI_toInt (n := 1) (by omega))).mp c_10
            exfalso; omega
      · have f_16 : (3 : Int) = (2 : Int) := (c_eq (nI_toInt (n := 3) (by omega)) (nI_toInt (n := 2) (by omega))).mp c_5
        exfalso; omega
    · have f_17 : (3 : Int) = (1 : Int) := (c_eq (nI_toInt (n := 3) (by omega)) (nI_toInt (n := 1) (by omega))).mp c_3
      exfalso; omega
  · have f_18 : (3 : Int) = (0 : Int) := (c_eq (nI_toInt (n := 3) (by omega)) rfl).mp c_1
    exfalso; omega

set_option maxHeartbeats 4000000 in
set_option maxRecDepth 100000 in
theorem c_L_chg_3_k1 {l : Launch} {G : GT} {H0 : Heap} (a : Nat → Nat) (v : SVT) (mo ki : Nat → Nat) (pr df : Nat → Int) (co : Int32) (bi : Nat) (g9 : Nat → Int32) (lr : Nat) (bf : Nat → Int) (tn : Nat → Nat) (ln nx ct : Nat) (hv : Nat → SVT) (v0 : SVT) (k0 : Nat) (v1 : SVT) (k1 : Nat) (oa : Nat) (of : Nat → Int32) (b9 c9 : Int32) (hnx : nx < 6) (hct : ct ≤ 6) (hms : v.2.2.2.2.2.2.2.1 < 999) (hkd : 1 ≤ v.2.2.2.2.2.2.1 ∧ v.2.2.2.2.2.2.1 ≤ 20) (hpi : v.2.2.2.2.2.2.2.1 ≤ 999) (hkey : v.2.2.2.2.2.2.2.1 % v.2.2.2.2.2.2.1 = 0) (hfl : l.stackTraces = false) (hP0 : PP G (xW G a v mo ki pr df co bi g9 lr bf tn ln nx ct hv v0 k0 v1 k1 ++ [(oa, .inl (cI G, 1, .inl of))]) H0) (hB0 : va_D (lo G) (xW G a v mo ki pr df co bi g9 lr bf tn ln nx ct hv v0 k0 v1 k1 ++ [(oa, .inl (cI G, 1, .inl of))])) : Met l yL_changes wsL_changes ({ frames := 5, cells := 0, slots := 0, locals := 109 } : Room) (pcX G [.ref (a 0), .int (nI (3)), .int (nI (1)), .int (b9), .int (c9), .ref oa] H0) (qMi G (fun (r : Int32) (u : Unit) => r = nI 0) (fun (u : Unit) => xW G a (v.1, v.1, v.2.2.1, fun _ => 0, mo, v.2.2.2.2.2.1, v.2.2.2.2.2.2.1, v.2.2.2.2.2.2.2.1 + 1, v.2.2.2.2.2.2.2.2.1 + 1, v.2.2.2.2.2.2.2.2.2 + 264) mo (fzK ki 4) pr df (iI (-1)) 264 g9 lr bf tn ln ((nx + 1) % 6) (min (ct + 1) 6) (va_up hv nx v) v0 k0 v1 k1 ++ [(oa, .inl (cI G, 1, .inl (upd of 0 (nI (264)))))]) (xW G a v mo ki pr df co bi g9 lr bf tn ln nx ct hv v0 k0 v1 k1 ++ [(oa, .inl (cI G, 1, .inl of))]) H0) 0 0 (va_A (xW G a v mo ki pr df co bi g9 lr bf tn ln nx ct hv v0 k0 v1 k1 ++ [(oa, .inl (cI G, 1, .inl of))]) H0.size) := by
  refine enterHX (cc := cL_changes) (maxL := 7) (ret := some .int) (own := RL) (lv := [(0, .ref (a 0)), (1, .int (nI (3))), (2, .int (nI (1))), (3, .int (b9)), (4, .int (c9)), (5, .ref oa)]) (by decide) rfl rfl rfl (Nat.le_of_ble_eq_true rfl) ?_
  intro pg ev s m below meth c hx hb hr hts hown hlocks hml htab hH hCX ls hl
  subst hH
  have hC := hCX.1
  have hLo := va_freeB hB0 hC.2.2.2.1
  have hD := hB0.self (sz := s.heap.size)
  have hS : va_S (va_A (xW G a v mo ki pr df co bi g9 lr bf tn ln nx ct hv v0 k0 v1 k1 ++ [(oa, .inl (cI G, 1, .inl of))]) s.heap.size) s.heap s.heap [] := va_S.rf
  unfold qMi
  generalize hAe : va_A (xW G a v mo ki pr df co bi g9 lr bf tn ln nx ct hv v0 k0 v1 k1 ++ [(oa, .inl (cI G, 1, .inl of))]) s.heap.size = A at hD hLo hS ⊢
  have hA : ∀ q, s.heap.size ≤ q → A q := fun q h => by rw [← hAe]; exact Or.inr h
  generalize ([] : List Loc) = locs at hS ⊢
  have hP := hP0
  refine lv_aload hx hb dL_changes_0 (lv_at hl 5 rfl) ?_
  refine lv_iconst (v := nI (0)) hx hb dL_changes_2 (by decide) ?_
  refine lv_iload_n hx hb dL_changes_3 rfl (lv_at hl 1 rfl) ?_
  refine lv_if_ne (tgt := 16) hx hb dL_changes_4 (by decide) (fun c_1 => ?_) (fun c_1 => ?_)
  · have f_2 : ¬ (3 : Int) = (0 : Int) := fun z => c_1 ((c_eq (nI_toInt (n := 3) (by omega)) rfl).mpr z)
    refine lv_iload_n hx hb dL_changes_16 rfl (lv_at hl 1 rfl) ?_
    refine lv_iconst (v := nI (1)) hx hb dL_changes_17 (by decide) ?_
    refine lv_icmp_ne (tgt := 40) hx hb dL_changes_18 (by decide) (fun c_3 => ?_) (fun c_3 => ?_)
    · have f_4 : ¬ (3 : Int) = (1 : Int) := fun z => c_3 ((c_eq (nI_toInt (n := 3) (by omega)) (nI_toInt (n := 1) (by omega))).mpr z)
      refine lv_iload_n hx hb dL_changes_40 rfl (lv_at hl 1 rfl) ?_
      refine lv_iconst (v := nI (2)) hx hb dL_changes_41 (by decide) ?_
      refine lv_icmp_ne (tgt := 54) hx hb dL_changes_42 (by decide) (fun c_5 => ?_) (fun c_5 => ?_)
      · have f_6 : ¬ (3 : Int) = (2 : Int) := fun z => c_5 ((c_eq (nI_toInt (n := 3) (by omega)) (nI_toInt (n := 2) (by omega))).mpr z)
        refine lv_iload_n hx hb dL_changes_54 rfl (lv_at hl 1 rfl) ?_
        refine lv_iconst (v := nI (3)) hx hb dL_changes_55 (by decide) ?_
        refine lv_icmp_ne (tgt := 76) hx hb dL_changes_56 (by decide) (fun c_7 => ?_) (fun c_7 => ?_)
        · have f_8 := c_7
          exact absurd rfl f_8
        · have f_9 := c_7
          refine lv_aload_n hx hb dL_changes_59 rfl (lv_at hl 0 rfl) ?_
          refine lv_iload_n hx hb dL_changes_60 rfl (lv_at hl 2 rfl) ?_
          refine lv_iconst (v := nI (1)) hx hb dL_changes_61 (by decide) ?_
          refine lv_icmp_ne (tgt := 69) hx hb dL_changes_62 (by decide) (fun c_10 => ?_) (fun c_10 => ?_)
          · have f_11 := c_10
            exact absurd rfl f_11
          · have f_12 := c_10
            refine lv_iconst (v := nI (1)) hx hb dL_changes_65 (by decide) ?_
            refine lv_goto (tgt := 70) hx hb dL_changes_66 (by decide) ?_
            refine kPreI (va_runV (As := [.int (nI (1))]) (rest := [.int (nI (0)), .ref oa]) ⟨hx, hb, hml, hown, hts⟩ (c_X8_send_k1 a v mo ki pr df co bi g9 lr bf tn ln nx ct hv v0 k0 v1 k1 (by first | assumption | omega) (by first | assumption | omega) (by first | assumption | omega) (by first | assumption | omega) (by first | assumption | omega) (by first | assumption | omega) (pre_P hP) ((pre_D hD).weaken (fun _ _ _ h => hLo _ h))) (cwV 1 hts gL_changes_X8_send rfl rfl rfl (by decide +kernel) ⟨Nat.le_of_ble_eq_true rfl, Nat.le_of_ble_eq_true rfl⟩) (preV hC hS hLo hP (ci := 7) (q0 := 0) rfl rfl) rfl rfl hl.1 rfl (lv_room (Nat.le_of_ble_eq_true rfl)) dL_changes_70 ⟨Nat.zero_le _, Nat.zero_le _⟩) hP hD hS hA (fun _ => rfl) (fun r_15 u_13 H locs q_14 hP hD hS => ?_)
            have hP : PP G (xW G a (v.1, v.1, v.2.2.1, fun _ => 0, mo, v.2.2.2.2.2.1, v.2.2.2.2.2.2.1, v.2.2.2.2.2.2.2.1 + 1, v.2.2.2.2.2.2.2.2.1 + 1, v.2.2.2.2.2.2.2.2.2 + 264) mo (fzK ki 4) pr df (iI (-1)) 264 g9 lr bf tn ln ((nx + 1) % 6) (min (ct + 1) 6) (va_up hv nx v) v0 k0 v1 k1 ++ [(oa, .inl (cI G, 1, .inl of))]) H := hP
            have hD : va_D A (xW G a (v.1, v.1, v.2.2.1, fun _ => 0, mo, v.2.2.2.2.2.1, v.2.2.2.2.2.2.1, v.2.2.2.2.2.2.2.1 + 1, v.2.2.2.2.2.2.2.2.1 + 1, v.2.2.2.2.2.2.2.2.2 + 264) mo (fzK ki 4) pr df (iI (-1)) 264 g9 lr bf tn ln ((nx + 1) % 6) (min (ct + 1) 6) (va_up hv nx v) v0 k0 v1 k1 ++ [(oa, .inl (cI G, 1, .inl of))]) := hD
            refine topE (v' := nI (264)) (q_14) ?_
            refine lv_goto (tgt := 94) hx hb dL_changes_73 (by decide) ?_
            refine gOutI hx hb hC.K hP hD hS dL_changes_94 (fun H locs hP hD hS => ?_)
            have hP : PP G (xW G a (v.1, v.1, v.2.2.1, fun _ => 0, mo, v.2.2.2.2.2.1, v.2.2.2.2.2.2.1, v.2.2.2.2.2.2.2.1 + 1, v.2.2.2.2.2.2.2.2.1 + 1, v.2.2.2.2.2.2.2.2.2 + 264) mo (fzK ki 4) pr df (iI (-1)) 264 g9 lr bf tn ln ((nx + 1) % 6) (min (ct + 1) 6) (va_up hv nx v) v0 k0 v1 k1 ++ [(oa, .inl (cI G, 1, .inl (upd of 0 (nI (264)))))]) H := hP
            have hD : va_D A (xW G a (v.1, v.1, v.2.2.1, fun _ => 0, mo, v.2.2.2.2.2.1, v.2.2.2.2.2.2.1, v.2.2.2.2.2.2.2.1 + 1, v.2.2.2.2.2.2.2.2.1 + 1, v.2.2.2.2.2.2.2.2.2 + 264) mo (fzK ki 4) pr df (iI (-1)) 264 g9 lr bf tn ln ((nx + 1) % 6) (min (ct + 1) 6) (va_up hv nx v) v0 k0 v1 k1 ++ [(oa, .inl (cI G, 1, .inl (upd of 0 (nI (264)))))]) := hD
            refine lv_goto (tgt := 110) hx hb dL_changes_95 (by decide) ?_
            refine lv_iconst (v := nI (0)) hx hb dL_changes_110 (by decide) ?_
            exact xMi (G := G) (post := (fun (r : Int32) (u : Unit) => r = nI 0)) (w1 := (fun (u : Unit) => xW G a (v.1, v.1, v.2.2.1, fun _ => 0, mo, v.2.2.2.2.2.1, v.2.2.2.2.2.2.1, v.2.2.2.2.2.2.2.1 + 1, v.2.2.2.2.2.2.2.2.1 + 1, v.2.2.2.2.2.2.2.2.2 + 264) mo (fzK ki 4) pr df (iI (-1)) 264 g9 lr bf tn ln ((nx + 1) % 6) (min (ct + 1) 6) (va_up hv nx v) v0 k0 v1 k1 ++ [(oa, .inl (cI G, 1, .inl (upd of 0 (nI (264)))))])) (()) hx hb hr hlocks hP hS (by exact rfl) (by exact rfl) dL_changes_111
      · have f_16 : (3 : Int) = (2 : Int) := (c_eq (nI_toInt (n := 3) (by omega)) (nI_toInt (n := 2) (by omega))).mp c_5
        exfalso; omega
    · have f_17 : (3 : Int) = (1 : Int) := (c_eq (nI_toInt (n := 3) (by omega)) (nI_toInt (n := 1) (by omega))).mp c_3
      exfalso; omega
  · have f_18 : (3 : Int) = (0 : Int) := (c_eq (nI_toInt (n := 3) (by omega)) rfl).mp c_1
    exfalso; omega

set_option maxHeartbeats 4000000 in
set_option maxRecDepth 100000 in
theorem c_L_chg_4 {l : Launch} {G : GT} {H0 : Heap} (a : Nat → Nat) (v : SVT) (mo ki : Nat → Nat) (pr df : Nat → Int) (co : Int32) (bi : Nat) (g9 : Nat → Int32) (lr : Nat) (bf : Nat → Int) (tn : Nat → Nat) (ln nx ct : Nat) (hv : Nat → SVT) (v0 : SVT) (k0 : Nat) (v1 : SVT) (k1 : Nat) (oa : Nat) (of : Nat → Int32) (q : Nat) (b9 c9 : Int32) (hnx : nx < 6) (hct : ct ≤ 6) (hq : 4 ≤ q ∧ q ≤ 300) (hfl : l.stackTraces = false) (hP0 : PP G (xW G a v mo ki pr df co bi g9 lr bf tn ln nx ct hv v0 k0 v1 k1 ++ [(oa, .inl (cI G, 1, .inl of))]) H0) (hB0 : va_D (lo G) (xW G a v mo ki pr df co bi g9 lr bf tn ln nx ct hv v0 k0 v1 k1 ++ [(oa, .inl (cI G, 1, .inl of))])) : Met l yL_changes wsL_changes ({ frames := 5, cells := 0, slots := 0, locals := 110 } : Room) (pcX G [.ref (a 0), .int (nI (4)), .int (nI (q)), .int (b9), .int (c9), .ref oa] H0) (qMi G (fun (r : Int32) (u : Unit) => r = nI 0) (fun (u : Unit) => xW G a (v.1, v.2.1, v.2.2.1, v.2.2.2.1, v.2.2.2.2.1, q, v.2.2.2.2.2.2.1, v.2.2.2.2.2.2.2.1, v.2.2.2.2.2.2.2.2.1, v.2.2.2.2.2.2.2.2.2) mo ki pr df co bi g9 lr bf tn ln ((nx + 1) % 6) (min (ct + 1) 6) (va_up hv nx v) v0 k0 v1 k1 ++ [(oa, .inl (cI G, 1, .inl (upd of 0 (nI (v.2.2.2.2.2.1)))))]) (xW G a v mo ki pr df co bi g9 lr bf tn ln nx ct hv v0 k0 v1 k1 ++ [(oa, .inl (cI G, 1, .inl of))]) H0) 0 0 (va_A (xW G a v mo ki pr df co bi g9 lr bf tn ln nx ct hv v0 k0 v1 k1 ++ [(oa, .inl (cI G, 1, .inl of))]) H0.size) := by
  refine enterHX (cc := cL_changes) (maxL := 7) (ret := some .int) (own := RL) (lv := [(0, .ref (a 0)), (1, .int (nI (4))), (2, .int (nI (q))), (3, .int (b9)), (4, .int (c9)), (5, .ref oa)]) (by decide) rfl rfl rfl (Nat.le_of_ble_eq_true rfl) ?_
  intro pg ev s m below meth c hx hb hr hts hown hlocks hml htab hH hCX ls hl
  subst hH
  have hC := hCX.1
  have hLo := va_freeB hB0 hC.2.2.2.1
  have hD := hB0.self (sz := s.heap.size)
  have hS : va_S (va_A (xW G a v mo ki pr df co bi g9 lr bf tn ln nx ct hv v0 k0 v1 k1 ++ [(oa, .inl (cI G, 1, .inl of))]) s.heap.size) s.heap s.heap [] := va_S.rf
  unfold qMi
  generalize hAe : va_A (xW G a v mo ki pr df co bi g9 lr bf tn ln nx ct hv v0 k0 v1 k1 ++ [(oa, .inl (cI G, 1, .inl of))]) s.heap.size = A at hD hLo hS ⊢
  have hA : ∀ q, s.heap.size ≤ q → A q := fun q h => by rw [← hAe]; exact Or.inr h
  generalize ([] : List Loc) = locs at hS ⊢
  have hP := hP0
  refine lv_aload hx hb dL_changes_0 (lv_at hl 5 rfl) ?_
  refine lv_iconst (v := nI (0)) hx hb dL_changes_2 (by decide) ?_
  refine lv_iload_n hx hb dL_changes_3 rfl (lv_at hl 1 rfl) ?_
  refine lv_if_ne (tgt := 16) hx hb dL_changes_4 (by decide) (fun c_1 => ?_) (fun c_1 => ?_)
  · have f_2 : ¬ (4 : Int) = (0 : Int) := fun z => c_1 ((c_eq (nI_toInt (n := 4) (by omega)) rfl).mpr z)
    refine lv_iload_n hx hb dL_changes_16 rfl (lv_at hl 1 rfl) ?_
    refine lv_iconst (v := nI (1)) hx hb dL_changes_17 (by decide) ?_
    refine lv_icmp_ne (tgt := 40) hx hb dL_changes_18 (by decide) (fun c_3 => ?_) (fun c_3 => ?_)
    · have f_4 : ¬ (4 : Int) = (1 : Int) := fun z => c_3 ((c_eq (nI_toInt (n := 4) (by omega)) (nI_toInt (n := 1) (by omega))).mpr z)
      refine lv_iload_n hx hb dL_changes_40 rfl (lv_at hl 1 rfl) ?_
      refine lv_iconst (v := nI (2)) hx hb dL_changes_41 (by decide) ?_
      refine lv_icmp_ne (tgt := 54) hx hb dL_changes_42 (by decide) (fun c_5 => ?_) (fun c_5 => ?_)
      · have f_6 : ¬ (4 : Int) = (2 : Int) := fun z => c_5 ((c_eq (nI_toInt (n := 4) (by omega)) (nI_toInt (n := 2) (by omega))).mpr z)
        refine lv_iload_n hx hb dL_changes_54 rfl (lv_at hl 1 rfl) ?_
        refine lv_iconst (v := nI (3)) hx hb dL_changes_55 (by decide) ?_
        refine lv_icmp_ne (tgt := 76) hx hb dL_changes_56 (by decide) (fun c_7 => ?_) (fun c_7 => ?_)
        · have f_8 : ¬ (4 : Int) = (3 : Int) := fun z => c_7 ((c_eq (nI_toInt (n := 4) (by omega)) (nI_toInt (n := 3) (by omega))).mpr z)
          refine lv_iload_n hx hb dL_changes_76 rfl (lv_at hl 1 rfl) ?_
          refine lv_iconst (v := nI (4)) hx hb dL_changes_77 (by decide) ?_
          refine lv_icmp_ne (tgt := 89) hx hb dL_changes_78 (by decide) (fun c_9 => ?_) (fun c_9 => ?_)
          · have f_10 := c_9
            exact absurd rfl f_10
          · have f_11 := c_9
            refine lv_aload_n hx hb dL_changes_81 rfl (lv_at hl 0 rfl) ?_
            refine lv_iload_n hx hb dL_changes_82 rfl (lv_at hl 2 rfl) ?_
            refine kPreI (va_runV (As := [.int (nI (q))]) (rest := [.int (nI (0)), .ref oa]) ⟨hx, hb, hml, hown, hts⟩ (c_X8_setBudget a v mo ki pr df co bi g9 lr bf tn ln nx ct hv v0 k0 v1 k1 q (by first | assumption | omega) (by first | assumption | omega) (by first | assumption | omega) (pre_P hP) ((pre_D hD).weaken (fun _ _ _ h => hLo _ h))) (cwV 1 hts gL_changes_X8_setBudget rfl rfl rfl (by decide +kernel) ⟨Nat.le_of_ble_eq_true rfl, Nat.le_of_ble_eq_true rfl⟩) (preV hC hS hLo hP (ci := 7) (q0 := 0) rfl rfl) rfl rfl hl.1 rfl (lv_room (Nat.le_of_ble_eq_true rfl)) dL_changes_83 ⟨Nat.zero_le _, Nat.zero_le _⟩) hP hD hS hA (fun _ => rfl) (fun r_14 u_12 H locs q_13 hP hD hS => ?_)
            have hP : PP G (xW G a (v.1, v.2.1, v.2.2.1, v.2.2.2.1, v.2.2.2.2.1, q, v.2.2.2.2.2.2.1, v.2.2.2.2.2.2.2.1, v.2.2.2.2.2.2.2.2.1, v.2.2.2.2.2.2.2.2.2) mo ki pr df co bi g9 lr bf tn ln ((nx + 1) % 6) (min (ct + 1) 6) (va_up hv nx v) v0 k0 v1 k1 ++ [(oa, .inl (cI G, 1, .inl of))]) H := hP
            have hD : va_D A (xW G a (v.1, v.2.1, v.2.2.1, v.2.2.2.1, v.2.2.2.2.1, q, v.2.2.2.2.2.2.1, v.2.2.2.2.2.2.2.1, v.2.2.2.2.2.2.2.2.1, v.2.2.2.2.2.2.2.2.2) mo ki pr df co bi g9 lr bf tn ln ((nx + 1) % 6) (min (ct + 1) 6) (va_up hv nx v) v0 k0 v1 k1 ++ [(oa, .inl (cI G, 1, .inl of))]) := hD
            refine topE (v' := nI (v.2.2.2.2.2.1)) (q_13) ?_
            refine lv_goto (tgt := 94) hx hb dL_changes_86 (by decide) ?_
            refine gOutI hx hb hC.K hP hD hS dL_changes_94 (fun H locs hP hD hS => ?_)
            have hP : PP G (xW G a (v.1, v.2.1, v.2.2.1, v.2.2.2.1, v.2.2.2.2.1, q, v.2.2.2.2.2.2.1, v.2.2.2.2.2.2.2.1, v.2.2.2.2.2.2.2.2.1, v.2.2.2.2.2.2.2.2.2) mo ki pr df co bi g9 lr bf tn ln ((nx + 1) % 6) (min (ct + 1) 6) (va_up hv nx v) v0 k0 v1 k1 ++ [(oa, .inl (cI G, 1, .inl (upd of 0 (nI (v.2.2.2.2.2.1)))))]) H := hP
            have hD : va_D A (xW G a (v.1, v.2.1, v.2.2.1, v.2.2.2.1, v.2.2.2.2.1, q, v.2.2.2.2.2.2.1, v.2.2.2.2.2.2.2.1, v.2.2.2.2.2.2.2.2.1, v.2.2.2.2.2.2.2.2.2) mo ki pr df co bi g9 lr bf tn ln ((nx + 1) % 6) (min (ct + 1) 6) (va_up hv nx v) v0 k0 v1 k1 ++ [(oa, .inl (cI G, 1, .inl (upd of 0 (nI (v.2.2.2.2.2.1)))))]) := hD
            refine lv_goto (tgt := 110) hx hb dL_changes_95 (by decide) ?_
            refine lv_iconst (v := nI (0)) hx hb dL_changes_110 (by decide) ?_
            exact xMi (G := G) (post := (fun (r : Int32) (u : Unit) => r = nI 0)) (w1 := (fun (u : Unit) => xW G a (v.1, v.2.1, v.2.2.1, v.2.2.2.1, v.2.2.2.2.1, q, v.2.2.2.2.2.2.1, v.2.2.2.2.2.2.2.1, v.2.2.2.2.2.2.2.2.1, v.2.2.2.2.2.2.2.2.2) mo ki pr df co bi g9 lr bf tn ln ((nx + 1) % 6) (min (ct + 1) 6) (va_up hv nx v) v0 k0 v1 k1 ++ [(oa, .inl (cI G, 1, .inl (upd of 0 (nI (v.2.2.2.2.2.1)))))])) (()) hx hb hr hlocks hP hS (by exact rfl) (by exact rfl) dL_changes_111
        · have f_15 : (4 : Int) = (3 : Int) := (c_eq (nI_toInt (n := 4) (by omega)) (nI_toInt (n := 3) (by omega))).mp c_7
          exfalso; omega
      · have f_16 : (4 : Int) = (2 : Int) := (c_eq (nI_toInt (n := 4) (by omega)) (nI_toInt (n := 2) (by omega))).mp c_5
        exfalso; omega
    · have f_17 : (4 : Int) = (1 : Int) := (c_eq (nI_toInt (n := 4) (by omega)) (nI_toInt (n := 1) (by omega))).mp c_3
      exfalso; omega
  · have f_18 : (4 : Int) = (0 : Int) := (c_eq (nI_toInt (n := 4) (by omega)) rfl).mp c_1
    exfalso; omega

set_option maxHeartbeats 4000000 in
set_option maxRecDepth 100000 in
theorem c_L_chg_4_x1 {l : Launch} {G : GT} {H0 : Heap} (a : Nat → Nat) (v : SVT) (mo ki : Nat → Nat) (pr df : Nat → Int) (co : Int32) (bi : Nat) (g9 : Nat → Int32) (lr : Nat) (bf : Nat → Int) (tn : Nat → Nat) (ln nx ct : Nat) (hv : Nat → SVT) (v0 : SVT) (k0 : Nat) (v1 : SVT) (k1 : Nat) (oa : Nat) (of : Nat → Int32) (x0 : Int32) (b9 c9 : Int32) (hbad : x0.toInt < 4 ∨ 300 < x0.toInt) (hfl : l.stackTraces = false) (hP0 : PP G (xW G a v mo ki pr df co bi g9 lr bf tn ln nx ct hv v0 k0 v1 k1 ++ [(oa, .inl (cI G, 1, .inl of))]) H0) (hB0 : va_D (lo G) (xW G a v mo ki pr df co bi g9 lr bf tn ln nx ct hv v0 k0 v1 k1 ++ [(oa, .inl (cI G, 1, .inl of))])) : Met l yL_changes wsL_changes ({ frames := 8, cells := 1, slots := 6, locals := 126 } : Room) (pcX G [.ref (a 0), .int (nI (4)), .int (x0), .int (b9), .int (c9), .ref oa] H0) (qMi G (fun (r : Int32) (u : Unit) => r = nI 2) (fun (u : Unit) => xW G a v mo ki pr df co bi g9 lr bf tn ln nx ct hv v0 k0 v1 k1 ++ [(oa, .inl (cI G, 1, .inl of))]) (xW G a v mo ki pr df co bi g9 lr bf tn ln nx ct hv v0 k0 v1 k1 ++ [(oa, .inl (cI G, 1, .inl of))]) H0) 1 6 (va_A (xW G a v mo ki pr df co bi g9 lr bf tn ln nx ct hv v0 k0 v1 k1 ++ [(oa, .inl (cI G, 1, .inl of))]) H0.size) := by
  refine enterHX (cc := cL_changes) (maxL := 7) (ret := some .int) (own := RL) (lv := [(0, .ref (a 0)), (1, .int (nI (4))), (2, .int (x0)), (3, .int (b9)), (4, .int (c9)), (5, .ref oa)]) (by decide) rfl rfl rfl (Nat.le_of_ble_eq_true rfl) ?_
  intro pg ev s m below meth c hx hb hr hts hown hlocks hml htab hH hCX ls hl
  subst hH
  have hC := hCX.1
  have hLo := va_freeB hB0 hC.2.2.2.1
  have hD := hB0.self (sz := s.heap.size)
  have hS : va_S (va_A (xW G a v mo ki pr df co bi g9 lr bf tn ln nx ct hv v0 k0 v1 k1 ++ [(oa, .inl (cI G, 1, .inl of))]) s.heap.size) s.heap s.heap [] := va_S.rf
  unfold qMi
  generalize hAe : va_A (xW G a v mo ki pr df co bi g9 lr bf tn ln nx ct hv v0 k0 v1 k1 ++ [(oa, .inl (cI G, 1, .inl of))]) s.heap.size = A at hD hLo hS ⊢
  have hA : ∀ q, s.heap.size ≤ q → A q := fun q h => by rw [← hAe]; exact Or.inr h
  generalize ([] : List Loc) = locs at hS ⊢
  have hP := hP0
  refine lv_aload hx hb dL_changes_0 (lv_at hl 5 rfl) ?_
  refine lv_iconst (v := nI (0)) hx hb dL_changes_2 (by decide) ?_
  refine lv_iload_n hx hb dL_changes_3 rfl (lv_at hl 1 rfl) ?_
  refine lv_if_ne (tgt := 16) hx hb dL_changes_4 (by decide) (fun c_1 => ?_) (fun c_1 => ?_)
  · have f_2 : ¬ (4 : Int) = (0 : Int) := fun z => c_1 ((c_eq (nI_toInt (n := 4) (by omega)) rfl).mpr z)
    refine lv_iload_n hx hb dL_changes_16 rfl (lv_at hl 1 rfl) ?_
    refine lv_iconst (v := nI (1)) hx hb dL_changes_17 (by decide) ?_
    refine lv_icmp_ne (tgt := 40) hx hb dL_changes_18 (by decide) (fun c_3 => ?_) (fun c_3 => ?_)
    · have f_4 : ¬ (4 : Int) = (1 : Int) := fun z => c_3 ((c_eq (nI_toInt (n := 4) (by omega)) (nI_toInt (n := 1) (by omega))).mpr z)
      refine lv_iload_n hx hb dL_changes_40 rfl (lv_at hl 1 rfl) ?_
      refine lv_iconst (v := nI (2)) hx hb dL_changes_41 (by decide) ?_
      refine lv_icmp_ne (tgt := 54) hx hb dL_changes_42 (by decide) (fun c_5 => ?_) (fun c_5 => ?_)
      · have f_6 : ¬ (4 : Int) = (2 : Int) := fun z => c_5 ((c_eq (nI_toInt (n := 4) (by omega)) (nI_toInt (n := 2) (by omega))).mpr z)
        refine lv_iload_n hx hb dL_changes_54 rfl (lv_at hl 1 rfl) ?_
        refine lv_iconst (v := nI (3)) hx hb dL_changes_55 (by decide) ?_
        refine lv_icmp_ne (tgt := 76) hx hb dL_changes_56 (by decide) (fun c_7 => ?_) (fun c_7 => ?_)
        · have f_8 : ¬ (4 : Int) = (3 : Int) := fun z => c_7 ((c_eq (nI_toInt (n := 4) (by omega)) (nI_toInt (n := 3) (by omega))).mpr z)
          refine lv_iload_n hx hb dL_changes_76 rfl (lv_at hl 1 rfl) ?_
          refine lv_iconst (v := nI (4)) hx hb dL_changes_77 (by decide) ?_
          refine lv_icmp_ne (tgt := 89) hx hb dL_changes_78 (by decide) (fun c_9 => ?_) (fun c_9 => ?_)
          · have f_10 := c_9
            exact absurd rfl f_10
          · have f_11 := c_9
            refine lv_aload_n hx hb dL_changes_81 rfl (lv_at hl 0 rfl) ?_
            refine lv_iload_n hx hb dL_changes_82 rfl (lv_at hl 2 rfl) ?_
            refine tCatch (hh := [(0, 95, 98, 32), (0, 95, 102, 34), (0, 95, 106, 36)]) (own := RL) (name := "java/lang/IllegalArgumentException") (vx_runV (As := [.int (x0)]) (rest := [.int (nI (0)), .ref oa]) ⟨hx, hb, hml, hown, hts⟩ (c_X8_setBudget_x1 (a 0) x0 (by first | assumption | omega) hfl) (cwV 1 hts gL_changes_X8_setBudget rfl rfl rfl (by decide +kernel) ⟨Nat.le_of_ble_eq_true rfl, Nat.le_of_ble_eq_true rfl⟩) (preVX hCX hS hLo hP (ci := 7) (q0 := 0) rfl rfl) rfl rfl hl.1 rfl (lv_room (Nat.le_of_ble_eq_true rfl)) dL_changes_83 ⟨Nat.le_of_ble_eq_true rfl, Nat.le_of_ble_eq_true rfl⟩) hP hS hown htab [⟨0, 95, 98, 32⟩] ⟨0, 95, 102, 34⟩ [⟨0, 95, 106, 36⟩] rfl (fun z hz => by rcases List.mem_singleton.mp hz with rfl; exact Or.inr ⟨by decide, "java/lang/IndexOutOfBoundsException", (hts (.classLink RL 32 "java/lang/IndexOutOfBoundsException") (by decide +kernel)), hC.nc 0 rfl⟩) (by decide) (by decide) (hts (.classLink RL 34 "java/lang/IllegalArgumentException") (by decide +kernel)) (hC.nest 81 rfl) (fun q_12 H locs hP hS => ?_)
            refine lv_astore (lv' := [(6, .ref q_12), (0, .ref (a 0)), (1, .int (nI (4))), (2, .int (x0)), (3, .int (b9)), (4, .int (c9)), (5, .ref oa)]) hx hb dL_changes_102 hl (by decide) rfl (fun ls hl => ?_)
            refine lv_iconst (v := nI (2)) hx hb dL_changes_104 (by decide) ?_
            exact xMi (G := G) (post := (fun (r : Int32) (u : Unit) => r = nI 2)) (w1 := (fun (u : Unit) => xW G a v mo ki pr df co bi g9 lr bf tn ln nx ct hv v0 k0 v1 k1 ++ [(oa, .inl (cI G, 1, .inl of))])) (()) hx hb hr hlocks hP hS (by exact rfl) (by exact rfl) dL_changes_105
        · have f_13 : (4 : Int) = (3 : Int) := (c_eq (nI_toInt (n := 4) (by omega)) (nI_toInt (n := 3) (by omega))).mp c_7
          exfalso; omega
      · have f_14 : (4 : Int) = (2 : Int) := (c_eq (nI_toInt (n := 4) (by omega)) (nI_toInt (n := 2) (by omega))).mp c_5
        exfalso; omega
    · have f_15 : (4 : Int) = (1 : Int) := (c_eq (nI_toInt (n := 4) (by omega)) (nI_toInt (n := 1) (by omega))).mp c_3
      exfalso; omega
  · have f_16 : (4 : Int) = (0 : Int) := (c_eq (nI_toInt (n := 4) (by omega)) rfl).mp c_1
    exfalso; omega

set_option maxHeartbeats 4000000 in
set_option maxRecDepth 100000 in
theorem c_L_chg_5 {l : Launch} {G : GT} {H0 : Heap} (a : Nat → Nat) (v : SVT) (mo ki : Nat → Nat) (pr df : Nat → Int) (co : Int32) (bi : Nat) (g9 : Nat → Int32) (lr : Nat) (bf : Nat → Int) (tn : Nat → Nat) (ln nx ct : Nat) (hv : Nat → SVT) (v0 : SVT) (k0 : Nat) (v1 : SVT) (k1 : Nat) (oa : Nat) (of : Nat → Int32) (q : Nat) (b9 c9 : Int32) (hnx : nx < 6) (hct : ct ≤ 6) (hq : 1 ≤ q ∧ q ≤ 20) (hfl : l.stackTraces = false) (hP0 : PP G (xW G a v mo ki pr df co bi g9 lr bf tn ln nx ct hv v0 k0 v1 k1 ++ [(oa, .inl (cI G, 1, .inl of))]) H0) (hB0 : va_D (lo G) (xW G a v mo ki pr df co bi g9 lr bf tn ln nx ct hv v0 k0 v1 k1 ++ [(oa, .inl (cI G, 1, .inl of))])) : Met l yL_changes wsL_changes ({ frames := 5, cells := 0, slots := 0, locals := 110 } : Room) (pcX G [.ref (a 0), .int (nI (5)), .int (nI (q)), .int (b9), .int (c9), .ref oa] H0) (qMi G (fun (r : Int32) (u : Unit) => r = nI 0) (fun (u : Unit) => xW G a (v.1, v.2.1, v.2.2.1, v.2.2.2.1, v.2.2.2.2.1, v.2.2.2.2.2.1, q, v.2.2.2.2.2.2.2.1, v.2.2.2.2.2.2.2.2.1, v.2.2.2.2.2.2.2.2.2) mo ki pr df co bi g9 lr bf tn ln ((nx + 1) % 6) (min (ct + 1) 6) (va_up hv nx v) v0 k0 v1 k1 ++ [(oa, .inl (cI G, 1, .inl (upd of 0 (nI (v.2.2.2.2.2.2.1)))))]) (xW G a v mo ki pr df co bi g9 lr bf tn ln nx ct hv v0 k0 v1 k1 ++ [(oa, .inl (cI G, 1, .inl of))]) H0) 0 0 (va_A (xW G a v mo ki pr df co bi g9 lr bf tn ln nx ct hv v0 k0 v1 k1 ++ [(oa, .inl (cI G, 1, .inl of))]) H0.size) := by
  refine enterHX (cc := cL_changes) (maxL := 7) (ret := some .int) (own := RL) (lv := [(0, .ref (a 0)), (1, .int (nI (5))), (2, .int (nI (q))), (3, .int (b9)), (4, .int (c9)), (5, .ref oa)]) (by decide) rfl rfl rfl (Nat.le_of_ble_eq_true rfl) ?_
  intro pg ev s m below meth c hx hb hr hts hown hlocks hml htab hH hCX ls hl
  subst hH
  have hC := hCX.1
  have hLo := va_freeB hB0 hC.2.2.2.1
  have hD := hB0.self (sz := s.heap.size)
  have hS : va_S (va_A (xW G a v mo ki pr df co bi g9 lr bf tn ln nx ct hv v0 k0 v1 k1 ++ [(oa, .inl (cI G, 1, .inl of))]) s.heap.size) s.heap s.heap [] := va_S.rf
  unfold qMi
  generalize hAe : va_A (xW G a v mo ki pr df co bi g9 lr bf tn ln nx ct hv v0 k0 v1 k1 ++ [(oa, .inl (cI G, 1, .inl of))]) s.heap.size = A at hD hLo hS ⊢
  have hA : ∀ q, s.heap.size ≤ q → A q := fun q h => by rw [← hAe]; exact Or.inr h
  generalize ([] : List Loc) = locs at hS ⊢
  have hP := hP0
  refine lv_aload hx hb dL_changes_0 (lv_at hl 5 rfl) ?_
  refine lv_iconst (v := nI (0)) hx hb dL_changes_2 (by decide) ?_
  refine lv_iload_n hx hb dL_changes_3 rfl (lv_at hl 1 rfl) ?_
  refine lv_if_ne (tgt := 16) hx hb dL_changes_4 (by decide) (fun c_1 => ?_) (fun c_1 => ?_)
  · have f_2 : ¬ (5 : Int) = (0 : Int) := fun z => c_1 ((c_eq (nI_toInt (n := 5) (by omega)) rfl).mpr z)
    refine lv_iload_n hx hb dL_changes_16 rfl (lv_at hl 1 rfl) ?_
    refine lv_iconst (v := nI (1)) hx hb dL_changes_17 (by decide) ?_
    refine lv_icmp_ne (tgt := 40) hx hb dL_changes_18 (by decide) (fun c_3 => ?_) (fun c_3 => ?_)
    · have f_4 : ¬ (5 : Int) = (1 : Int) := fun z => c_3 ((c_eq (nI_toInt (n := 5) (by omega)) (nI_toInt (n := 1) (by omega))).mpr z)
      refine lv_iload_n hx hb dL_changes_40 rfl (lv_at hl 1 rfl) ?_
      refine lv_iconst (v := nI (2)) hx hb dL_changes_41 (by decide) ?_
      refine lv_icmp_ne (tgt := 54) hx hb dL_changes_42 (by decide) (fun c_5 => ?_) (fun c_5 => ?_)
      · have f_6 : ¬ (5 : Int) = (2 : Int) := fun z => c_5 ((c_eq (nI_toInt (n := 5) (by omega)) (nI_toInt (n := 2) (by omega))).mpr z)
        refine lv_iload_n hx hb dL_changes_54 rfl (lv_at hl 1 rfl) ?_
        refine lv_iconst (v := nI (3)) hx hb dL_changes_55 (by decide) ?_
        refine lv_icmp_ne (tgt := 76) hx hb dL_changes_56 (by decide) (fun c_7 => ?_) (fun c_7 => ?_)
        · have f_8 : ¬ (5 : Int) = (3 : Int) := fun z => c_7 ((c_eq (nI_toInt (n := 5) (by omega)) (nI_toInt (n := 3) (by omega))).mpr z)
          refine lv_iload_n hx hb dL_changes_76 rfl (lv_at hl 1 rfl) ?_
          refine lv_iconst (v := nI (4)) hx hb dL_changes_77 (by decide) ?_
          refine lv_icmp_ne (tgt := 89) hx hb dL_changes_78 (by decide) (fun c_9 => ?_) (fun c_9 => ?_)
          · have f_10 : ¬ (5 : Int) = (4 : Int) := fun z => c_9 ((c_eq (nI_toInt (n := 5) (by omega)) (nI_toInt (n := 4) (by omega))).mpr z)
            refine lv_aload_n hx hb dL_changes_89 rfl (lv_at hl 0 rfl) ?_
            refine lv_iload_n hx hb dL_changes_90 rfl (lv_at hl 2 rfl) ?_
            refine kPreI (va_runV (As := [.int (nI (q))]) (rest := [.int (nI (0)), .ref oa]) ⟨hx, hb, hml, hown, hts⟩ (c_X8_setKeyDistance a v mo ki pr df co bi g9 lr bf tn ln nx ct hv v0 k0 v1 k1 q (by first | assumption | omega) (by first | assumption | omega) (by first | assumption | omega) (pre_P hP) ((pre_D hD).weaken (fun _ _ _ h => hLo _ h))) (cwV 1 hts gL_changes_X8_setKeyDistance rfl rfl rfl (by decide +kernel) ⟨Nat.le_of_ble_eq_true rfl, Nat.le_of_ble_eq_true rfl⟩) (preV hC hS hLo hP (ci := 7) (q0 := 0) rfl rfl) rfl rfl hl.1 rfl (lv_room (Nat.le_of_ble_eq_true rfl)) dL_changes_91 ⟨Nat.zero_le _, Nat.zero_le _⟩) hP hD hS hA (fun _ => rfl) (fun r_13 u_11 H locs q_12 hP hD hS => ?_)
            have hP : PP G (xW G a (v.1, v.2.1, v.2.2.1, v.2.2.2.1, v.2.2.2.2.1, v.2.2.2.2.2.1, q, v.2.2.2.2.2.2.2.1, v.2.2.2.2.2.2.2.2.1, v.2.2.2.2.2.2.2.2.2) mo ki pr df co bi g9 lr bf tn ln ((nx + 1) % 6) (min (ct + 1) 6) (va_up hv nx v) v0 k0 v1 k1 ++ [(oa, .inl (cI G, 1, .inl of))]) H := hP
            have hD : va_D A (xW G a (v.1, v.2.1, v.2.2.1, v.2.2.2.1, v.2.2.2.2.1, v.2.2.2.2.2.1, q, v.2.2.2.2.2.2.2.1, v.2.2.2.2.2.2.2.2.1, v.2.2.2.2.2.2.2.2.2) mo ki pr df co bi g9 lr bf tn ln ((nx + 1) % 6) (min (ct + 1) 6) (va_up hv nx v) v0 k0 v1 k1 ++ [(oa, .inl (cI G, 1, .inl of))]) := hD
            refine topE (v' := nI (v.2.2.2.2.2.2.1)) (q_12) ?_
            refine gOutI hx hb hC.K hP hD hS dL_changes_94 (fun H locs hP hD hS => ?_)
            have hP : PP G (xW G a (v.1, v.2.1, v.2.2.1, v.2.2.2.1, v.2.2.2.2.1, v.2.2.2.2.2.1, q, v.2.2.2.2.2.2.2.1, v.2.2.2.2.2.2.2.2.1, v.2.2.2.2.2.2.2.2.2) mo ki pr df co bi g9 lr bf tn ln ((nx + 1) % 6) (min (ct + 1) 6) (va_up hv nx v) v0 k0 v1 k1 ++ [(oa, .inl (cI G, 1, .inl (upd of 0 (nI (v.2.2.2.2.2.2.1)))))]) H := hP
            have hD : va_D A (xW G a (v.1, v.2.1, v.2.2.1, v.2.2.2.1, v.2.2.2.2.1, v.2.2.2.2.2.1, q, v.2.2.2.2.2.2.2.1, v.2.2.2.2.2.2.2.2.1, v.2.2.2.2.2.2.2.2.2) mo ki pr df co bi g9 lr bf tn ln ((nx + 1) % 6) (min (ct + 1) 6) (va_up hv nx v) v0 k0 v1 k1 ++ [(oa, .inl (cI G, 1, .inl (upd of 0 (nI (v.2.2.2.2.2.2.1)))))]) := hD
            refine lv_goto (tgt := 110) hx hb dL_changes_95 (by decide) ?_
            refine lv_iconst (v := nI (0)) hx hb dL_changes_110 (by decide) ?_
            exact xMi (G := G) (post := (fun (r : Int32) (u : Unit) => r = nI 0)) (w1 := (fun (u : Unit) => xW G a (v.1, v.2.1, v.2.2.1, v.2.2.2.1, v.2.2.2.2.1, v.2.2.2.2.2.1, q, v.2.2.2.2.2.2.2.1, v.2.2.2.2.2.2.2.2.1, v.2.2.2.2.2.2.2.2.2) mo ki pr df co bi g9 lr bf tn ln ((nx + 1) % 6) (min (ct + 1) 6) (va_up hv nx v) v0 k0 v1 k1 ++ [(oa, .inl (cI G, 1, .inl (upd of 0 (nI (v.2.2.2.2.2.2.1)))))])) (()) hx hb hr hlocks hP hS (by exact rfl) (by exact rfl) dL_changes_111
          · have f_14 : (5 : Int) = (4 : Int) := (c_eq (nI_toInt (n := 5) (by omega)) (nI_toInt (n := 4) (by omega))).mp c_9
            exfalso; omega
        · have f_15 : (5 : Int) = (3 : Int) := (c_eq (nI_toInt (n := 5) (by omega)) (nI_toInt (n := 3) (by omega))).mp c_7
          exfalso; omega
      · have f_16 : (5 : Int) = (2 : Int) := (c_eq (nI_toInt (n := 5) (by omega)) (nI_toInt (n := 2) (by omega))).mp c_5
        exfalso; omega
    · have f_17 : (5 : Int) = (1 : Int) := (c_eq (nI_toInt (n := 5) (by omega)) (nI_toInt (n := 1) (by omega))).mp c_3
      exfalso; omega
  · have f_18 : (5 : Int) = (0 : Int) := (c_eq (nI_toInt (n := 5) (by omega)) rfl).mp c_1
    exfalso; omega

set_option maxHeartbeats 4000000 in
set_option maxRecDepth 100000 in
theorem c_L_chg_5_x1 {l : Launch} {G : GT} {H0 : Heap} (a : Nat → Nat) (v : SVT) (mo ki : Nat → Nat) (pr df : Nat → Int) (co : Int32) (bi : Nat) (g9 : Nat → Int32) (lr : Nat) (bf : Nat → Int) (tn : Nat → Nat) (ln nx ct : Nat) (hv : Nat → SVT) (v0 : SVT) (k0 : Nat) (v1 : SVT) (k1 : Nat) (oa : Nat) (of : Nat → Int32) (x0 : Int32) (b9 c9 : Int32) (hbad : x0.toInt < 1 ∨ 20 < x0.toInt) (hfl : l.stackTraces = false) (hP0 : PP G (xW G a v mo ki pr df co bi g9 lr bf tn ln nx ct hv v0 k0 v1 k1 ++ [(oa, .inl (cI G, 1, .inl of))]) H0) (hB0 : va_D (lo G) (xW G a v mo ki pr df co bi g9 lr bf tn ln nx ct hv v0 k0 v1 k1 ++ [(oa, .inl (cI G, 1, .inl of))])) : Met l yL_changes wsL_changes ({ frames := 8, cells := 1, slots := 6, locals := 126 } : Room) (pcX G [.ref (a 0), .int (nI (5)), .int (x0), .int (b9), .int (c9), .ref oa] H0) (qMi G (fun (r : Int32) (u : Unit) => r = nI 2) (fun (u : Unit) => xW G a v mo ki pr df co bi g9 lr bf tn ln nx ct hv v0 k0 v1 k1 ++ [(oa, .inl (cI G, 1, .inl of))]) (xW G a v mo ki pr df co bi g9 lr bf tn ln nx ct hv v0 k0 v1 k1 ++ [(oa, .inl (cI G, 1, .inl of))]) H0) 1 6 (va_A (xW G a v mo ki pr df co bi g9 lr bf tn ln nx ct hv v0 k0 v1 k1 ++ [(oa, .inl (cI G, 1, .inl of))]) H0.size) := by
  refine enterHX (cc := cL_changes) (maxL := 7) (ret := some .int) (own := RL) (lv := [(0, .ref (a 0)), (1, .int (nI (5))), (2, .int (x0)), (3, .int (b9)), (4, .int (c9)), (5, .ref oa)]) (by decide) rfl rfl rfl (Nat.le_of_ble_eq_true rfl) ?_
  intro pg ev s m below meth c hx hb hr hts hown hlocks hml htab hH hCX ls hl
  subst hH
  have hC := hCX.1
  have hLo := va_freeB hB0 hC.2.2.2.1
  have hD := hB0.self (sz := s.heap.size)
  have hS : va_S (va_A (xW G a v mo ki pr df co bi g9 lr bf tn ln nx ct hv v0 k0 v1 k1 ++ [(oa, .inl (cI G, 1, .inl of))]) s.heap.size) s.heap s.heap [] := va_S.rf
  unfold qMi
  generalize hAe : va_A (xW G a v mo ki pr df co bi g9 lr bf tn ln nx ct hv v0 k0 v1 k1 ++ [(oa, .inl (cI G, 1, .inl of))]) s.heap.size = A at hD hLo hS ⊢
  have hA : ∀ q, s.heap.size ≤ q → A q := fun q h => by rw [← hAe]; exact Or.inr h
  generalize ([] : List Loc) = locs at hS ⊢
  have hP := hP0
  refine lv_aload hx hb dL_changes_0 (lv_at hl 5 rfl) ?_
  refine lv_iconst (v := nI (0)) hx hb dL_changes_2 (by decide) ?_
  refine lv_iload_n hx hb dL_changes_3 rfl (lv_at hl 1 rfl) ?_
  refine lv_if_ne (tgt := 16) hx hb dL_changes_4 (by decide) (fun c_1 => ?_) (fun c_1 => ?_)
  · have f_2 : ¬ (5 : Int) = (0 : Int) := fun z => c_1 ((c_eq (nI_toInt (n := 5) (by omega)) rfl).mpr z)
    refine lv_iload_n hx hb dL_changes_16 rfl (lv_at hl 1 rfl) ?_
    refine lv_iconst (v := nI (1)) hx hb dL_changes_17 (by decide) ?_
    refine lv_icmp_ne (tgt := 40) hx hb dL_changes_18 (by decide) (fun c_3 => ?_) (fun c_3 => ?_)
    · have f_4 : ¬ (5 : Int) = (1 : Int) := fun z => c_3 ((c_eq (nI_toInt (n := 5) (by omega)) (nI_toInt (n := 1) (by omega))).mpr z)
      refine lv_iload_n hx hb dL_changes_40 rfl (lv_at hl 1 rfl) ?_
      refine lv_iconst (v := nI (2)) hx hb dL_changes_41 (by decide) ?_
      refine lv_icmp_ne (tgt := 54) hx hb dL_changes_42 (by decide) (fun c_5 => ?_) (fun c_5 => ?_)
      · have f_6 : ¬ (5 : Int) = (2 : Int) := fun z => c_5 ((c_eq (nI_toInt (n := 5) (by omega)) (nI_toInt (n := 2) (by omega))).mpr z)
        refine lv_iload_n hx hb dL_changes_54 rfl (lv_at hl 1 rfl) ?_
        refine lv_iconst (v := nI (3)) hx hb dL_changes_55 (by decide) ?_
        refine lv_icmp_ne (tgt := 76) hx hb dL_changes_56 (by decide) (fun c_7 => ?_) (fun c_7 => ?_)
        · have f_8 : ¬ (5 : Int) = (3 : Int) := fun z => c_7 ((c_eq (nI_toInt (n := 5) (by omega)) (nI_toInt (n := 3) (by omega))).mpr z)
          refine lv_iload_n hx hb dL_changes_76 rfl (lv_at hl 1 rfl) ?_
          refine lv_iconst (v := nI (4)) hx hb dL_changes_77 (by decide) ?_
          refine lv_icmp_ne (tgt := 89) hx hb dL_changes_78 (by decide) (fun c_9 => ?_) (fun c_9 => ?_)
          · have f_10 : ¬ (5 : Int) = (4 : Int) := fun z => c_9 ((c_eq (nI_toInt (n := 5) (by omega)) (nI_toInt (n := 4) (by omega))).mpr z)
            refine lv_aload_n hx hb dL_changes_89 rfl (lv_at hl 0 rfl) ?_
            refine lv_iload_n hx hb dL_changes_90 rfl (lv_at hl 2 rfl) ?_
            refine tCatch (hh := [(0, 95, 98, 32), (0, 95, 102, 34), (0, 95, 106, 36)]) (own := RL) (name := "java/lang/IllegalArgumentException") (vx_runV (As := [.int (x0)]) (rest := [.int (nI (0)), .ref oa]) ⟨hx, hb, hml, hown, hts⟩ (c_X8_setKeyDistance_x1 (a 0) x0 (by first | assumption | omega) hfl) (cwV 1 hts gL_changes_X8_setKeyDistance rfl rfl rfl (by decide +kernel) ⟨Nat.le_of_ble_eq_true rfl, Nat.le_of_ble_eq_true rfl⟩) (preVX hCX hS hLo hP (ci := 7) (q0 := 0) rfl rfl) rfl rfl hl.1 rfl (lv_room (Nat.le_of_ble_eq_true rfl)) dL_changes_91 ⟨Nat.le_of_ble_eq_true rfl, Nat.le_of_ble_eq_true rfl⟩) hP hS hown htab [⟨0, 95, 98, 32⟩] ⟨0, 95, 102, 34⟩ [⟨0, 95, 106, 36⟩] rfl (fun z hz => by rcases List.mem_singleton.mp hz with rfl; exact Or.inr ⟨by decide, "java/lang/IndexOutOfBoundsException", (hts (.classLink RL 32 "java/lang/IndexOutOfBoundsException") (by decide +kernel)), hC.nc 0 rfl⟩) (by decide) (by decide) (hts (.classLink RL 34 "java/lang/IllegalArgumentException") (by decide +kernel)) (hC.nest 81 rfl) (fun q_11 H locs hP hS => ?_)
            refine lv_astore (lv' := [(6, .ref q_11), (0, .ref (a 0)), (1, .int (nI (5))), (2, .int (x0)), (3, .int (b9)), (4, .int (c9)), (5, .ref oa)]) hx hb dL_changes_102 hl (by decide) rfl (fun ls hl => ?_)
            refine lv_iconst (v := nI (2)) hx hb dL_changes_104 (by decide) ?_
            exact xMi (G := G) (post := (fun (r : Int32) (u : Unit) => r = nI 2)) (w1 := (fun (u : Unit) => xW G a v mo ki pr df co bi g9 lr bf tn ln nx ct hv v0 k0 v1 k1 ++ [(oa, .inl (cI G, 1, .inl of))])) (()) hx hb hr hlocks hP hS (by exact rfl) (by exact rfl) dL_changes_105
          · have f_12 : (5 : Int) = (4 : Int) := (c_eq (nI_toInt (n := 5) (by omega)) (nI_toInt (n := 4) (by omega))).mp c_9
            exfalso; omega
        · have f_13 : (5 : Int) = (3 : Int) := (c_eq (nI_toInt (n := 5) (by omega)) (nI_toInt (n := 3) (by omega))).mp c_7
          exfalso; omega
      · have f_14 : (5 : Int) = (2 : Int) := (c_eq (nI_toInt (n := 5) (by omega)) (nI_toInt (n := 2) (by omega))).mp c_5
        exfalso; omega
    · have f_15 : (5 : Int) = (1 : Int) := (c_eq (nI_toInt (n := 5) (by omega)) (nI_toInt (n := 1) (by omega))).mp c_3
      exfalso; omega
  · have f_16 : (5 : Int) = (0 : Int) := (c_eq (nI_toInt (n := 5) (by omega)) rfl).mp c_1
    exfalso; omega
