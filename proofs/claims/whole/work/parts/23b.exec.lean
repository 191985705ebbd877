set_option maxHeartbeats 4000000 in
set_option maxRecDepth 100000 in
theorem c_X8_execute_p1 {l : Launch} {G : GT} {H0 : Heap} (a : Nat → Nat) (v : SVT) (mo ki : Nat → Nat) (pr df : Nat → Int) (co : Int32) (bi : Nat) (g9 : Nat → Int32) (lr : Nat) (bf : Nat → Int) (tn : Nat → Nat) (ln : Nat) (i p w : Nat) (htn : T128 tn) (hln : ln ≤ 80) (hi9 : i ≤ 2147483647) (hi : i < ln) (hm9 : AN tn ln (i + 1) < ln) (h1 : nbZ tn ln (i + 1) (AN tn ln (i + 1) - (i + 1)) = (p : Int)) (h2 : nbZ tn ln (AN tn ln (i + 1) + 1) (AN tn ln (AN tn ln (i + 1) + 1) - (AN tn ln (i + 1) + 1)) = (w : Int)) (hp9 : p ≤ 99) (hw9 : w ≤ 99) (hok : p < 64 ∧ w ≤ 15) (hsg : sgn tn ln i = 112) (hP0 : PP G (y3W G a v mo ki pr df co bi g9 lr bf tn ln) H0) (hB0 : va_D (lo G) (y3W G a v mo ki pr df co bi g9 lr bf tn ln)) : Met l yX8_execute wsX8_execute ({ frames := 5, cells := 0, slots := 0, locals := 121 } : Room) (pcG G [.ref (a 0), .int (nI (i))] H0) (qMi G (fun (r : Int32) (u : Unit) => r = nI (1)) (fun (u : Unit) => y3W G a (va_up v.1 p (w : Int), v.2.1, v.2.2.1, v.2.2.2.1, v.2.2.2.2.1, v.2.2.2.2.2.1, v.2.2.2.2.2.2.1, v.2.2.2.2.2.2.2.1, v.2.2.2.2.2.2.2.2.1, v.2.2.2.2.2.2.2.2.2) mo ki pr df co bi g9 lr bf tn ln) (y3W G a v mo ki pr df co bi g9 lr bf tn ln) H0) 0 0 (va_A (y3W G a v mo ki pr df co bi g9 lr bf tn ln) H0.size) := by
  refine enter (cc := cX8_execute) (maxL := 3) (ret := some .boolean) (own := RX8) (lv := [(0, .ref (a 0)), (1, .int (nI (i)))]) (by decide) rfl rfl rfl (Nat.le_of_ble_eq_true rfl) ?_
  intro pg ev s m below meth c hx hb hr hts hown hlocks hml hnm hH hC ls hl
  subst hH
  have hLo := va_freeB hB0 hC.2.2.2.1
  have hD := hB0.self (sz := s.heap.size)
  have hS : va_S (va_A (y3W G a v mo ki pr df co bi g9 lr bf tn ln) s.heap.size) s.heap s.heap [] := va_S.rf
  unfold qMi
  generalize hAe : va_A (y3W G a v mo ki pr df co bi g9 lr bf tn ln) s.heap.size = A at hD hLo hS ⊢
  have hA : ∀ q, s.heap.size ≤ q → A q := fun q h => by rw [← hAe]; exact Or.inr h
  generalize ([] : List Loc) = locs at hS ⊢
  have hP := hP0
  refine lv_aload_n hx hb dX8_execute_0 rfl (lv_at hl 0 rfl) ?_
  refine va_get (D := gD G) (cl := vwCl) (tys := tyl G) (ci := 7) (v := .ref (a 20)) (C := RX8) (T := TX8) (N := 8) hx hb hts (by decide +kernel) hown hC.K hP 0 rfl rfl 4 (by decide) (hts (.fieldLink RX8 40 "MotionPost" "text" "LMotionPost$CommandText;") (by decide +kernel)) (fun _ h9 => h9) rfl dX8_execute_1 ?_
  refine lv_iload_n hx hb dX8_execute_4 rfl (lv_at hl 1 rfl) ?_
  refine kPi (va_runVN (As := [.int (nI (i))]) (rest := []) ⟨hx, hb, hml, hown, hts⟩ (c_X1_signAt (a 20) (a 21) tn ln i (by first | assumption | omega) (by first | assumption | omega) (by first | assumption | omega) (hP.sub [20, 21] rfl)) ⟨va_cnB 1 hts gX8_execute_X1_signAt_n296 rfl rfl rfl (hC.nest 75 rfl) (hts (.initialized RX1) (by decide +kernel)) (by decide +kernel) ⟨Nat.le_of_ble_eq_true rfl, Nat.le_of_ble_eq_true rfl⟩, (hts (.instanceMethod yX1_signAt) (by decide +kernel)), (hts (.selects RX1 yX1_signAt yX1_signAt) (by decide +kernel))⟩ (preV hC hS hLo hP (ci := 1) (q0 := 20) rfl rfl) rfl rfl hl.1 rfl (lv_room (Nat.le_of_ble_eq_true rfl)) dX8_execute_5 ⟨Nat.zero_le _, Nat.zero_le _⟩) hS (fun locs hS => ?_)
  refine topE (v' := nI (112)) (congrArg nI hsg) ?_
  refine lv_istore_n (lv' := [(2, .int (nI (112))), (0, .ref (a 0)), (1, .int (nI (i)))]) hx hb dX8_execute_8 rfl hl (by decide) rfl (fun ls hl => ?_)
  refine lv_iload_n hx hb dX8_execute_9 rfl (lv_at hl 0 rfl) ?_
  refine lv_lookup (off := 50) (tgt := 60) hx hb dX8_execute_10 (by decide) (by decide) (by decide) ?_
  refine lv_aload_n hx hb dX8_execute_60 rfl (lv_at hl 1 rfl) ?_
  refine lv_iload_n hx hb dX8_execute_61 rfl (lv_at hl 2 rfl) ?_
  refine kWi (va_runV (As := [.int (nI (i))]) (rest := []) ⟨hx, hb, hml, hown, hts⟩ (c_X8_drawByCommand_y a v mo ki pr df co bi g9 lr bf tn ln i p w (by first | assumption | omega) (by first | assumption | omega) (by first | assumption | omega) (by first | assumption | omega) (by first | assumption | omega) (by first | assumption | omega) (by first | assumption | omega) (by first | assumption | omega) (by first | assumption | omega) hP (hD.weaken (fun _ _ _ h => hLo _ h))) (cwV 1 hts gX8_execute_X8_drawByCommand rfl rfl rfl (by decide +kernel) ⟨Nat.le_of_ble_eq_true rfl, Nat.le_of_ble_eq_true rfl⟩) (preV hC hS hLo hP (ci := 7) (q0 := 0) rfl rfl) rfl rfl hl.1 rfl (lv_room (Nat.le_of_ble_eq_true rfl)) dX8_execute_62 ⟨Nat.zero_le _, Nat.zero_le _⟩) hP hD hS hA (fun _ => rfl) (fun r_3 u_1 H locs q_2 hP hD hS => ?_)
  have hP : PP G (y3W G a (va_up v.1 p (w : Int), v.2.1, v.2.2.1, v.2.2.2.1, v.2.2.2.2.1, v.2.2.2.2.2.1, v.2.2.2.2.2.2.1, v.2.2.2.2.2.2.2.1, v.2.2.2.2.2.2.2.2.1, v.2.2.2.2.2.2.2.2.2) mo ki pr df co bi g9 lr bf tn ln) H := hP
  have hD : va_D A (y3W G a (va_up v.1 p (w : Int), v.2.1, v.2.2.1, v.2.2.2.1, v.2.2.2.2.1, v.2.2.2.2.2.1, v.2.2.2.2.2.2.1, v.2.2.2.2.2.2.2.1, v.2.2.2.2.2.2.2.2.1, v.2.2.2.2.2.2.2.2.2) mo ki pr df co bi g9 lr bf tn ln) := hD
  refine topE (v' := nI (1)) (q_2) ?_
  exact xMi (G := G) (post := (fun (r : Int32) (u : Unit) => r = nI (1))) (w1 := (fun (u : Unit) => y3W G a (va_up v.1 p (w : Int), v.2.1, v.2.2.1, v.2.2.2.1, v.2.2.2.2.1, v.2.2.2.2.2.1, v.2.2.2.2.2.2.1, v.2.2.2.2.2.2.2.1, v.2.2.2.2.2.2.2.2.1, v.2.2.2.2.2.2.2.2.2) mo ki pr df co bi g9 lr bf tn ln)) (()) hx hb hr hlocks hP hS (by exact rfl) (by exact rfl) dX8_execute_65

set_option maxHeartbeats 4000000 in
set_option maxRecDepth 100000 in
theorem c_X8_execute_p0 {l : Launch} {G : GT} {H0 : Heap} (a : Nat → Nat) (v : SVT) (mo ki : Nat → Nat) (pr df : Nat → Int) (co : Int32) (bi : Nat) (g9 : Nat → Int32) (lr : Nat) (bf : Nat → Int) (tn : Nat → Nat) (ln : Nat) (i p w : Nat) (htn : T128 tn) (hln : ln ≤ 80) (hi9 : i ≤ 2147483647) (hi : i < ln) (hm9 : AN tn ln (i + 1) < ln) (h1 : nbZ tn ln (i + 1) (AN tn ln (i + 1) - (i + 1)) = (p : Int)) (h2 : nbZ tn ln (AN tn ln (i + 1) + 1) (AN tn ln (AN tn ln (i + 1) + 1) - (AN tn ln (i + 1) + 1)) = (w : Int)) (hp9 : p ≤ 99) (hw9 : w ≤ 99) (hok : ¬ (p < 64 ∧ w ≤ 15)) (hsg : sgn tn ln i = 112) (hP0 : PP G (y3W G a v mo ki pr df co bi g9 lr bf tn ln) H0) (hB0 : va_D (lo G) (y3W G a v mo ki pr df co bi g9 lr bf tn ln)) : Met l yX8_execute wsX8_execute ({ frames := 5, cells := 0, slots := 0, locals := 121 } : Room) (pcG G [.ref (a 0), .int (nI (i))] H0) (qMi G (fun (r : Int32) (u : Unit) => r = nI (0)) (fun (u : Unit) => y3W G a v mo ki pr df co bi g9 lr bf tn ln) (y3W G a v mo ki pr df co bi g9 lr bf tn ln) H0) 0 0 (va_A (y3W G a v mo ki pr df co bi g9 lr bf tn ln) H0.size) := by
  refine enter (cc := cX8_execute) (maxL := 3) (ret := some .boolean) (own := RX8) (lv := [(0, .ref (a 0)), (1, .int (nI (i)))]) (by decide) rfl rfl rfl (Nat.le_of_ble_eq_true rfl) ?_
  intro pg ev s m below meth c hx hb hr hts hown hlocks hml hnm hH hC ls hl
  subst hH
  have hLo := va_freeB hB0 hC.2.2.2.1
  have hD := hB0.self (sz := s.heap.size)
  have hS : va_S (va_A (y3W G a v mo ki pr df co bi g9 lr bf tn ln) s.heap.size) s.heap s.heap [] := va_S.rf
  unfold qMi
  generalize hAe : va_A (y3W G a v mo ki pr df co bi g9 lr bf tn ln) s.heap.size = A at hD hLo hS ⊢
  have hA : ∀ q, s.heap.size ≤ q → A q := fun q h => by rw [← hAe]; exact Or.inr h
  generalize ([] : List Loc) = locs at hS ⊢
  have hP := hP0
  refine lv_aload_n hx hb dX8_execute_0 rfl (lv_at hl 0 rfl) ?_
  refine va_get (D := gD G) (cl := vwCl) (tys := tyl G) (ci := 7) (v := .ref (a 20)) (C := RX8) (T := TX8) (N := 8) hx hb hts (by decide +kernel) hown hC.K hP 0 rfl rfl 4 (by decide) (hts (.fieldLink RX8 40 "MotionPost" "text" "LMotionPost$CommandText;") (by decide +kernel)) (fun _ h9 => h9) rfl dX8_execute_1 ?_
  refine lv_iload_n hx hb dX8_execute_4 rfl (lv_at hl 1 rfl) ?_
  refine kPi (va_runVN (As := [.int (nI (i))]) (rest := []) ⟨hx, hb, hml, hown, hts⟩ (c_X1_signAt (a 20) (a 21) tn ln i (by first | assumption | omega) (by first | assumption | omega) (by first | assumption | omega) (hP.sub [20, 21] rfl)) ⟨va_cnB 1 hts gX8_execute_X1_signAt_n296 rfl rfl rfl (hC.nest 75 rfl) (hts (.initialized RX1) (by decide +kernel)) (by decide +kernel) ⟨Nat.le_of_ble_eq_true rfl, Nat.le_of_ble_eq_true rfl⟩, (hts (.instanceMethod yX1_signAt) (by decide +kernel)), (hts (.selects RX1 yX1_signAt yX1_signAt) (by decide +kernel))⟩ (preV hC hS hLo hP (ci := 1) (q0 := 20) rfl rfl) rfl rfl hl.1 rfl (lv_room (Nat.le_of_ble_eq_true rfl)) dX8_execute_5 ⟨Nat.zero_le _, Nat.zero_le _⟩) hS (fun locs hS => ?_)
  refine topE (v' := nI (112)) (congrArg nI hsg) ?_
  refine lv_istore_n (lv' := [(2, .int (nI (112))), (0, .ref (a 0)), (1, .int (nI (i)))]) hx hb dX8_execute_8 rfl hl (by decide) rfl (fun ls hl => ?_)
  refine lv_iload_n hx hb dX8_execute_9 rfl (lv_at hl 0 rfl) ?_
  refine lv_lookup (off := 50) (tgt := 60) hx hb dX8_execute_10 (by decide) (by decide) (by decide) ?_
  refine lv_aload_n hx hb dX8_execute_60 rfl (lv_at hl 1 rfl) ?_
  refine lv_iload_n hx hb dX8_execute_61 rfl (lv_at hl 2 rfl) ?_
  refine kWi (va_runV (As := [.int (nI (i))]) (rest := []) ⟨hx, hb, hml, hown, hts⟩ (c_X8_drawByCommand_n a v mo ki pr df co bi g9 lr bf tn ln i p w (by first | assumption | omega) (by first | assumption | omega) (by first | assumption | omega) (by first | assumption | omega) (by first | assumption | omega) (by first | assumption | omega) (by first | assumption | omega) (by first | assumption | omega) (by first | assumption | omega) hP (hD.weaken (fun _ _ _ h => hLo _ h))) (cwV 1 hts gX8_execute_X8_drawByCommand rfl rfl rfl (by decide +kernel) ⟨Nat.le_of_ble_eq_true rfl, Nat.le_of_ble_eq_true rfl⟩) (preV hC hS hLo hP (ci := 7) (q0 := 0) rfl rfl) rfl rfl hl.1 rfl (lv_room (Nat.le_of_ble_eq_true rfl)) dX8_execute_62 ⟨Nat.zero_le _, Nat.zero_le _⟩) hP hD hS hA (fun _ => rfl) (fun r_3 u_1 H locs q_2 hP hD hS => ?_)
  have hP : PP G (y3W G a v mo ki pr df co bi g9 lr bf tn ln) H := hP
  have hD : va_D A (y3W G a v mo ki pr df co bi g9 lr bf tn ln) := hD
  refine topE (v' := nI (0)) (q_2) ?_
  exact xMi (G := G) (post := (fun (r : Int32) (u : Unit) => r = nI (0))) (w1 := (fun (u : Unit) => y3W G a v mo ki pr df co bi g9 lr bf tn ln)) (()) hx hb hr hlocks hP hS (by exact rfl) (by exact rfl) dX8_execute_65

set_option maxHeartbeats 4000000 in
set_option maxRecDepth 100000 in
theorem c_X8_execute_u {l : Launch} {G : GT} {H0 : Heap} (a : Nat → Nat) (v : SVT) (mo ki : Nat → Nat) (pr df : Nat → Int) (co : Int32) (bi : Nat) (g9 : Nat → Int32) (lr : Nat) (bf : Nat → Int) (tn : Nat → Nat) (ln : Nat) (i : Nat) (htn : T128 tn) (hln : ln ≤ 80) (hi9 : i ≤ 2147483647) (hd : R15 v.1) (hsg : sgn tn ln i = 117) (hP0 : PP G (y3W G a v mo ki pr df co bi g9 lr bf tn ln) H0) (hB0 : va_D (lo G) (y3W G a v mo ki pr df co bi g9 lr bf tn ln)) : Met l yX8_execute wsX8_execute ({ frames := 5, cells := 0, slots := 0, locals := 121 } : Room) (pcG G [.ref (a 0), .int (nI (i))] H0) (qMi G (fun (r : Int32) (u : Unit) => r = nI (1)) (fun (u : Unit) => y3W G a ((tkm v.1 (1) (0) v.1 64).1, v.2.1, v.2.2.1, v.2.2.2.1, v.2.2.2.2.1, v.2.2.2.2.2.1, v.2.2.2.2.2.2.1, v.2.2.2.2.2.2.2.1, v.2.2.2.2.2.2.2.2.1, v.2.2.2.2.2.2.2.2.2) mo ki pr df co bi g9 lr v.1 tn ln) (y3W G a v mo ki pr df co bi g9 lr bf tn ln) H0) 0 0 (va_A (y3W G a v mo ki pr df co bi g9 lr bf tn ln) H0.size) := by
  refine enter (cc := cX8_execute) (maxL := 3) (ret := some .boolean) (own := RX8) (lv := [(0, .ref (a 0)), (1, .int (nI (i)))]) (by decide) rfl rfl rfl (Nat.le_of_ble_eq_true rfl) ?_
  intro pg ev s m below meth c hx hb hr hts hown hlocks hml hnm hH hC ls hl
  subst hH
  have hLo := va_freeB hB0 hC.2.2.2.1
  have hD := hB0.self (sz := s.heap.size)
  have hS : va_S (va_A (y3W G a v mo ki pr df co bi g9 lr bf tn ln) s.heap.size) s.heap s.heap [] := va_S.rf
  unfold qMi
  generalize hAe : va_A (y3W G a v mo ki pr df co bi g9 lr bf tn ln) s.heap.size = A at hD hLo hS ⊢
  have hA : ∀ q, s.heap.size ≤ q → A q := fun q h => by rw [← hAe]; exact Or.inr h
  generalize ([] : List Loc) = locs at hS ⊢
  have hP := hP0
  refine lv_aload_n hx hb dX8_execute_0 rfl (lv_at hl 0 rfl) ?_
  refine va_get (D := gD G) (cl := vwCl) (tys := tyl G) (ci := 7) (v := .ref (a 20)) (C := RX8) (T := TX8) (N := 8) hx hb hts (by decide +kernel) hown hC.K hP 0 rfl rfl 4 (by decide) (hts (.fieldLink RX8 40 "MotionPost" "text" "LMotionPost$CommandText;") (by decide +kernel)) (fun _ h9 => h9) rfl dX8_execute_1 ?_
  refine lv_iload_n hx hb dX8_execute_4 rfl (lv_at hl 1 rfl) ?_
  refine kPi (va_runVN (As := [.int (nI (i))]) (rest := []) ⟨hx, hb, hml, hown, hts⟩ (c_X1_signAt (a 20) (a 21) tn ln i (by first | assumption | omega) (by first | assumption | omega) (by first | assumption | omega) (hP.sub [20, 21] rfl)) ⟨va_cnB 1 hts gX8_execute_X1_signAt_n296 rfl rfl rfl (hC.nest 75 rfl) (hts (.initialized RX1) (by decide +kernel)) (by decide +kernel) ⟨Nat.le_of_ble_eq_true rfl, Nat.le_of_ble_eq_true rfl⟩, (hts (.instanceMethod yX1_signAt) (by decide +kernel)), (hts (.selects RX1 yX1_signAt yX1_signAt) (by decide +kernel))⟩ (preV hC hS hLo hP (ci := 1) (q0 := 20) rfl rfl) rfl rfl hl.1 rfl (lv_room (Nat.le_of_ble_eq_true rfl)) dX8_execute_5 ⟨Nat.zero_le _, Nat.zero_le _⟩) hS (fun locs hS => ?_)
  refine topE (v' := nI (117)) (congrArg nI hsg) ?_
  refine lv_istore_n (lv' := [(2, .int (nI (117))), (0, .ref (a 0)), (1, .int (nI (i)))]) hx hb dX8_execute_8 rfl hl (by decide) rfl (fun ls hl => ?_)
  refine lv_iload_n hx hb dX8_execute_9 rfl (lv_at hl 0 rfl) ?_
  refine lv_lookup (off := 56) (tgt := 66) hx hb dX8_execute_10 (by decide) (by decide) (by decide) ?_
  refine lv_aload_n hx hb dX8_execute_66 rfl (lv_at hl 1 rfl) ?_
  refine lv_iconst (v := nI (1)) hx hb dX8_execute_67 (by decide) ?_
  refine lv_iconst (v := nI (0)) hx hb dX8_execute_68 (by decide) ?_
  refine kWi (va_runV (As := [.int (nI (1)), .int (nI (0))]) (rest := []) ⟨hx, hb, hml, hown, hts⟩ (c_X8_scrollDrawn_y a v mo ki pr df co bi g9 lr bf tn ln 1 0 (by first | assumption | omega) (by first | assumption | omega) (by first | assumption | omega) hP (hD.weaken (fun _ _ _ h => hLo _ h))) (cwV 2 hts gX8_execute_X8_scrollDrawn rfl rfl rfl (by decide +kernel) ⟨Nat.le_of_ble_eq_true rfl, Nat.le_of_ble_eq_true rfl⟩) (preV hC hS hLo hP (ci := 7) (q0 := 0) rfl rfl) rfl rfl hl.1 rfl (lv_room (Nat.le_of_ble_eq_true rfl)) dX8_execute_69 ⟨Nat.zero_le _, Nat.zero_le _⟩) hP hD hS hA (fun _ => rfl) (fun r_3 u_1 H locs q_2 hP hD hS => ?_)
  have hP : PP G (y3W G a ((tkm v.1 1 0 v.1 64).1, v.2.1, v.2.2.1, v.2.2.2.1, v.2.2.2.2.1, v.2.2.2.2.2.1, v.2.2.2.2.2.2.1, v.2.2.2.2.2.2.2.1, v.2.2.2.2.2.2.2.2.1, v.2.2.2.2.2.2.2.2.2) mo ki pr df co bi g9 lr v.1 tn ln) H := hP
  have hD : va_D A (y3W G a ((tkm v.1 1 0 v.1 64).1, v.2.1, v.2.2.1, v.2.2.2.1, v.2.2.2.2.1, v.2.2.2.2.2.1, v.2.2.2.2.2.2.1, v.2.2.2.2.2.2.2.1, v.2.2.2.2.2.2.2.2.1, v.2.2.2.2.2.2.2.2.2) mo ki pr df co bi g9 lr v.1 tn ln) := hD
  refine topE (v' := nI ((tkm v.1 1 0 v.1 64).2)) (q_2) ?_
  refine lv_pop hx hb dX8_execute_72 rfl ?_
  refine lv_iconst (v := nI (1)) hx hb dX8_execute_73 (by decide) ?_
  exact xMi (G := G) (post := (fun (r : Int32) (u : Unit) => r = nI (1))) (w1 := (fun (u : Unit) => y3W G a ((tkm v.1 (1) (0) v.1 64).1, v.2.1, v.2.2.1, v.2.2.2.1, v.2.2.2.2.1, v.2.2.2.2.2.1, v.2.2.2.2.2.2.1, v.2.2.2.2.2.2.2.1, v.2.2.2.2.2.2.2.2.1, v.2.2.2.2.2.2.2.2.2) mo ki pr df co bi g9 lr v.1 tn ln)) (()) hx hb hr hlocks hP hS (by exact rfl) (by exact rfl) dX8_execute_74

set_option maxHeartbeats 4000000 in
set_option maxRecDepth 100000 in
theorem c_X8_execute_d {l : Launch} {G : GT} {H0 : Heap} (a : Nat → Nat) (v : SVT) (mo ki : Nat → Nat) (pr df : Nat → Int) (co : Int32) (bi : Nat) (g9 : Nat → Int32) (lr : Nat) (bf : Nat → Int) (tn : Nat → Nat) (ln : Nat) (i : Nat) (htn : T128 tn) (hln : ln ≤ 80) (hi9 : i ≤ 2147483647) (hd : R15 v.1) (hsg : sgn tn ln i = 100) (hP0 : PP G (y3W G a v mo ki pr df co bi g9 lr bf tn ln) H0) (hB0 : va_D (lo G) (y3W G a v mo ki pr df co bi g9 lr bf tn ln)) : Met l yX8_execute wsX8_execute ({ frames := 5, cells := 0, slots := 0, locals := 121 } : Room) (pcG G [.ref (a 0), .int (nI (i))] H0) (qMi G (fun (r : Int32) (u : Unit) => r = nI (1)) (fun (u : Unit) => y3W G a ((tkm v.1 ((-1)) (0) v.1 64).1, v.2.1, v.2.2.1, v.2.2.2.1, v.2.2.2.2.1, v.2.2.2.2.2.1, v.2.2.2.2.2.2.1, v.2.2.2.2.2.2.2.1, v.2.2.2.2.2.2.2.2.1, v.2.2.2.2.2.2.2.2.2) mo ki pr df co bi g9 lr v.1 tn ln) (y3W G a v mo ki pr df co bi g9 lr bf tn ln) H0) 0 0 (va_A (y3W G a v mo ki pr df co bi g9 lr bf tn ln) H0.size) := by
  refine enter (cc := cX8_execute) (maxL := 3) (ret := some .boolean) (own := RX8) (lv := [(0, .ref (a 0)), (1, .int (nI (i)))]) (by decide) rfl rfl rfl (Nat.le_of_ble_eq_true rfl) ?_
  intro pg ev s m below meth c hx hb hr hts hown hlocks hml hnm hH hC ls hl
  subst hH
  have hLo := va_freeB hB0 hC.2.2.2.1
  have hD := hB0.self (sz := s.heap.size)
  have hS : va_S (va_A (y3W G a v mo ki pr df co bi g9 lr bf tn ln) s.heap.size) s.heap s.heap [] := va_S.rf
  unfold qMi
  generalize hAe : va_A (y3W G a v mo ki pr df co bi g9 lr bf tn ln) s.heap.size = A at hD hLo hS ⊢
  have hA : ∀ q, s.heap.size ≤ q → A q := fun q h => by rw [← hAe]; exact Or.inr h
  generalize ([] : List Loc) = locs at hS ⊢
  have hP := hP0
  refine lv_aload_n hx hb dX8_execute_0 rfl (lv_at hl 0 rfl) ?_
  refine va_get (D := gD G) (cl := vwCl) (tys := tyl G) (ci := 7) (v := .ref (a 20)) (C := RX8) (T := TX8) (N := 8) hx hb hts (by decide +kernel) hown hC.K hP 0 rfl rfl 4 (by decide) (hts (.fieldLink RX8 40 "MotionPost" "text" "LMotionPost$CommandText;") (by decide +kernel)) (fun _ h9 => h9) rfl dX8_execute_1 ?_
  refine lv_iload_n hx hb dX8_execute_4 rfl (lv_at hl 1 rfl) ?_
  refine kPi (va_runVN (As := [.int (nI (i))]) (rest := []) ⟨hx, hb, hml, hown, hts⟩ (c_X1_signAt (a 20) (a 21) tn ln i (by first | assumption | omega) (by first | assumption | omega) (by first | assumption | omega) (hP.sub [20, 21] rfl)) ⟨va_cnB 1 hts gX8_execute_X1_signAt_n296 rfl rfl rfl (hC.nest 75 rfl) (hts (.initialized RX1) (by decide +kernel)) (by decide +kernel) ⟨Nat.le_of_ble_eq_true rfl, Nat.le_of_ble_eq_true rfl⟩, (hts (.instanceMethod yX1_signAt) (by decide +kernel)), (hts (.selects RX1 yX1_signAt yX1_signAt) (by decide +kernel))⟩ (preV hC hS hLo hP (ci := 1) (q0 := 20) rfl rfl) rfl rfl hl.1 rfl (lv_room (Nat.le_of_ble_eq_true rfl)) dX8_execute_5 ⟨Nat.zero_le _, Nat.zero_le _⟩) hS (fun locs hS => ?_)
  refine topE (v' := nI (100)) (congrArg nI hsg) ?_
  refine lv_istore_n (lv' := [(2, .int (nI (100))), (0, .ref (a 0)), (1, .int (nI (i)))]) hx hb dX8_execute_8 rfl hl (by decide) rfl (fun ls hl => ?_)
  refine lv_iload_n hx hb dX8_execute_9 rfl (lv_at hl 0 rfl) ?_
  refine lv_lookup (off := 65) (tgt := 75) hx hb dX8_execute_10 (by decide) (by decide) (by decide) ?_
  refine lv_aload_n hx hb dX8_execute_75 rfl (lv_at hl 1 rfl) ?_
  refine lv_iconst (v := iI (-1)) hx hb dX8_execute_76 (by decide) ?_
  refine lv_iconst (v := nI (0)) hx hb dX8_execute_77 (by decide) ?_
  refine kWi (va_runV (As := [.int (iI (-1)), .int (nI (0))]) (rest := []) ⟨hx, hb, hml, hown, hts⟩ (c_X8_scrollDrawn_y a v mo ki pr df co bi g9 lr bf tn ln (-1) 0 (by first | assumption | omega) (by first | assumption | omega) (by first | assumption | omega) hP (hD.weaken (fun _ _ _ h => hLo _ h))) (cwV 2 hts gX8_execute_X8_scrollDrawn rfl rfl rfl (by decide +kernel) ⟨Nat.le_of_ble_eq_true rfl, Nat.le_of_ble_eq_true rfl⟩) (preV hC hS hLo hP (ci := 7) (q0 := 0) rfl rfl) rfl rfl hl.1 rfl (lv_room (Nat.le_of_ble_eq_true rfl)) dX8_execute_78 ⟨Nat.zero_le _, Nat.zero_le _⟩) hP hD hS hA (fun _ => rfl) (fun r_3 u_1 H locs q_2 hP hD hS => ?_)
  have hP : PP G (y3W G a ((tkm v.1 (-1) 0 v.1 64).1, v.2.1, v.2.2.1, v.2.2.2.1, v.2.2.2.2.1, v.2.2.2.2.2.1, v.2.2.2.2.2.2.1, v.2.2.2.2.2.2.2.1, v.2.2.2.2.2.2.2.2.1, v.2.2.2.2.2.2.2.2.2) mo ki pr df co bi g9 lr v.1 tn ln) H := hP
  have hD : va_D A (y3W G a ((tkm v.1 (-1) 0 v.1 64).1, v.2.1, v.2.2.1, v.2.2.2.1, v.2.2.2.2.1, v.2.2.2.2.2.1, v.2.2.2.2.2.2.1, v.2.2.2.2.2.2.2.1, v.2.2.2.2.2.2.2.2.1, v.2.2.2.2.2.2.2.2.2) mo ki pr df co bi g9 lr v.1 tn ln) := hD
  refine topE (v' := nI ((tkm v.1 (-1) 0 v.1 64).2)) (q_2) ?_
  refine lv_pop hx hb dX8_execute_81 rfl ?_
  refine lv_iconst (v := nI (1)) hx hb dX8_execute_82 (by decide) ?_
  exact xMi (G := G) (post := (fun (r : Int32) (u : Unit) => r = nI (1))) (w1 := (fun (u : Unit) => y3W G a ((tkm v.1 ((-1)) (0) v.1 64).1, v.2.1, v.2.2.1, v.2.2.2.1, v.2.2.2.2.1, v.2.2.2.2.2.1, v.2.2.2.2.2.2.1, v.2.2.2.2.2.2.2.1, v.2.2.2.2.2.2.2.2.1, v.2.2.2.2.2.2.2.2.2) mo ki pr df co bi g9 lr v.1 tn ln)) (()) hx hb hr hlocks hP hS (by exact rfl) (by exact rfl) dX8_execute_83

set_option maxHeartbeats 4000000 in
set_option maxRecDepth 100000 in
theorem c_X8_execute_l {l : Launch} {G : GT} {H0 : Heap} (a : Nat → Nat) (v : SVT) (mo ki : Nat → Nat) (pr df : Nat → Int) (co : Int32) (bi : Nat) (g9 : Nat → Int32) (lr : Nat) (bf : Nat → Int) (tn : Nat → Nat) (ln : Nat) (i : Nat) (htn : T128 tn) (hln : ln ≤ 80) (hi9 : i ≤ 2147483647) (hd : R15 v.1) (hsg : sgn tn ln i = 108) (hP0 : PP G (y3W G a v mo ki pr df co bi g9 lr bf tn ln) H0) (hB0 : va_D (lo G) (y3W G a v mo ki pr df co bi g9 lr bf tn ln)) : Met l yX8_execute wsX8_execute ({ frames := 5, cells := 0, slots := 0, locals := 121 } : Room) (pcG G [.ref (a 0), .int (nI (i))] H0) (qMi G (fun (r : Int32) (u : Unit) => r = nI (1)) (fun (u : Unit) => y3W G a ((tkm v.1 (0) (1) v.1 64).1, v.2.1, v.2.2.1, v.2.2.2.1, v.2.2.2.2.1, v.2.2.2.2.2.1, v.2.2.2.2.2.2.1, v.2.2.2.2.2.2.2.1, v.2.2.2.2.2.2.2.2.1, v.2.2.2.2.2.2.2.2.2) mo ki pr df co bi g9 lr v.1 tn ln) (y3W G a v mo ki pr df co bi g9 lr bf tn ln) H0) 0 0 (va_A (y3W G a v mo ki pr df co bi g9 lr bf tn ln) H0.size) := by
  refine enter (cc := cX8_execute) (maxL := 3) (ret := some .boolean) (own := RX8) (lv := [(0, .ref (a 0)), (1, .int (nI (i)))]) (by decide) rfl rfl rfl (Nat.le_of_ble_eq_true rfl) ?_
  intro pg ev s m below meth c hx hb hr hts hown hlocks hml hnm hH hC ls hl
  subst hH
  have hLo := va_freeB hB0 hC.2.2.2.1
  have hD := hB0.self (sz := s.heap.size)
  have hS : va_S (va_A (y3W G a v mo ki pr df co bi g9 lr bf tn ln) s.heap.size) s.heap s.heap [] := va_S.rf
  unfold qMi
  generalize hAe : va_A (y3W G a v mo ki pr df co bi g9 lr bf tn ln) s.heap.size = A at hD hLo hS ⊢
  have hA : ∀ q, s.heap.size ≤ q → A q := fun q h => by rw [← hAe]; exact Or.inr h
  generalize ([] : List Loc) = locs at hS ⊢
  have hP := hP0
  refine lv_aload_n hx hb dX8_execute_0 rfl (lv_at hl 0 rfl) ?_
  refine va_get (D := gD G) (cl := vwCl) (tys := tyl G) (ci := 7) (v := .ref (a 20)) (C := RX8) (T := TX8) (N := 8) hx hb hts (by decide +kernel) hown hC.K hP 0 rfl rfl 4 (by decide) (hts (.fieldLink RX8 40 "MotionPost" "text" "LMotionPost$CommandText;") (by decide +kernel)) (fun _ h9 => h9) rfl dX8_execute_1 ?_
  refine lv_iload_n hx hb dX8_execute_4 rfl (lv_at hl 1 rfl) ?_
  refine kPi (va_runVN (As := [.int (nI (i))]) (rest := []) ⟨hx, hb, hml, hown, hts⟩ (c_X1_signAt (a 20) (a 21) tn ln i (by first | assumption | omega) (by first | assumption | omega) (by first | assumption | omega) (hP.sub [20, 21] rfl)) ⟨va_cnB 1 hts gX8_execute_X1_signAt_n296 rfl rfl rfl (hC.nest 75 rfl) (hts (.initialized RX1) (by decide +kernel)) (by decide +kernel) ⟨Nat.le_of_ble_eq_true rfl, Nat.le_of_ble_eq_true rfl⟩, (hts (.instanceMethod yX1_signAt) (by decide +kernel)), (hts (.selects RX1 yX1_signAt yX1_signAt) (by decide +kernel))⟩ (preV hC hS hLo hP (ci := 1) (q0 := 20) rfl rfl) rfl rfl hl.1 rfl (lv_room (Nat.le_of_ble_eq_true rfl)) dX8_execute_5 ⟨Nat.zero_le _, Nat.zero_le _⟩) hS (fun locs hS => ?_)
  refine topE (v' := nI (108)) (congrArg nI hsg) ?_
  refine lv_istore_n (lv' := [(2, .int (nI (108))), (0, .ref (a 0)), (1, .int (nI (i)))]) hx hb dX8_execute_8 rfl hl (by decide) rfl (fun ls hl => ?_)
  refine lv_iload_n hx hb dX8_execute_9 rfl (lv_at hl 0 rfl) ?_
  refine lv_lookup (off := 74) (tgt := 84) hx hb dX8_execute_10 (by decide) (by decide) (by decide) ?_
  refine lv_aload_n hx hb dX8_execute_84 rfl (lv_at hl 1 rfl) ?_
  refine lv_iconst (v := nI (0)) hx hb dX8_execute_85 (by decide) ?_
  refine lv_iconst (v := nI (1)) hx hb dX8_execute_86 (by decide) ?_
  refine kWi (va_runV (As := [.int (nI (0)), .int (nI (1))]) (rest := []) ⟨hx, hb, hml, hown, hts⟩ (c_X8_scrollDrawn_y a v mo ki pr df co bi g9 lr bf tn ln 0 1 (by first | assumption | omega) (by first | assumption | omega) (by first | assumption | omega) hP (hD.weaken (fun _ _ _ h => hLo _ h))) (cwV 2 hts gX8_execute_X8_scrollDrawn rfl rfl rfl (by decide +kernel) ⟨Nat.le_of_ble_eq_true rfl, Nat.le_of_ble_eq_true rfl⟩) (preV hC hS hLo hP (ci := 7) (q0 := 0) rfl rfl) rfl rfl hl.1 rfl (lv_room (Nat.le_of_ble_eq_true rfl)) dX8_execute_87 ⟨Nat.zero_le _, Nat.zero_le _⟩) hP hD hS hA (fun _ => rfl) (fun r_3 u_1 H locs q_2 hP hD hS => ?_)
  have hP : PP G (y3W G a ((tkm v.1 0 1 v.1 64).1, v.2.1, v.2.2.1, v.2.2.2.1, v.2.2.2.2.1, v.2.2.2.2.2.1, v.2.2.2.2.2.2.1, v.2.2.2.2.2.2.2.1, v.2.2.2.2.2.2.2.2.1, v.2.2.2.2.2.2.2.2.2) mo ki pr df co bi g9 lr v.1 tn ln) H := hP
  have hD : va_D A (y3W G a ((tkm v.1 0 1 v.1 64).1, v.2.1, v.2.2.1, v.2.2.2.1, v.2.2.2.2.1, v.2.2.2.2.2.1, v.2.2.2.2.2.2.1, v.2.2.2.2.2.2.2.1, v.2.2.2.2.2.2.2.2.1, v.2.2.2.2.2.2.2.2.2) mo ki pr df co bi g9 lr v.1 tn ln) := hD
  refine topE (v' := nI ((tkm v.1 0 1 v.1 64).2)) (q_2) ?_
  refine lv_pop hx hb dX8_execute_90 rfl ?_
  refine lv_iconst (v := nI (1)) hx hb dX8_execute_91 (by decide) ?_
  exact xMi (G := G) (post := (fun (r : Int32) (u : Unit) => r = nI (1))) (w1 := (fun (u : Unit) => y3W G a ((tkm v.1 (0) (1) v.1 64).1, v.2.1, v.2.2.1, v.2.2.2.1, v.2.2.2.2.1, v.2.2.2.2.2.1, v.2.2.2.2.2.2.1, v.2.2.2.2.2.2.2.1, v.2.2.2.2.2.2.2.2.1, v.2.2.2.2.2.2.2.2.2) mo ki pr df co bi g9 lr v.1 tn ln)) (()) hx hb hr hlocks hP hS (by exact rfl) (by exact rfl) dX8_execute_92

set_option maxHeartbeats 4000000 in
set_option maxRecDepth 100000 in
theorem c_X8_execute_r {l : Launch} {G : GT} {H0 : Heap} (a : Nat → Nat) (v : SVT) (mo ki : Nat → Nat) (pr df : Nat → Int) (co : Int32) (bi : Nat) (g9 : Nat → Int32) (lr : Nat) (bf : Nat → Int) (tn : Nat → Nat) (ln : Nat) (i : Nat) (htn : T128 tn) (hln : ln ≤ 80) (hi9 : i ≤ 2147483647) (hd : R15 v.1) (hsg : sgn tn ln i = 114) (hP0 : PP G (y3W G a v mo ki pr df co bi g9 lr bf tn ln) H0) (hB0 : va_D (lo G) (y3W G a v mo ki pr df co bi g9 lr bf tn ln)) : Met l yX8_execute wsX8_execute ({ frames := 5, cells := 0, slots := 0, locals := 121 } : Room) (pcG G [.ref (a 0), .int (nI (i))] H0) (qMi G (fun (r : Int32) (u : Unit) => r = nI (1)) (fun (u : Unit) => y3W G a ((tkm v.1 (0) ((-1)) v.1 64).1, v.2.1, v.2.2.1, v.2.2.2.1, v.2.2.2.2.1, v.2.2.2.2.2.1, v.2.2.2.2.2.2.1, v.2.2.2.2.2.2.2.1, v.2.2.2.2.2.2.2.2.1, v.2.2.2.2.2.2.2.2.2) mo ki pr df co bi g9 lr v.1 tn ln) (y3W G a v mo ki pr df co bi g9 lr bf tn ln) H0) 0 0 (va_A (y3W G a v mo ki pr df co bi g9 lr bf tn ln) H0.size) := by
  refine enter (cc := cX8_execute) (maxL := 3) (ret := some .boolean) (own := RX8) (lv := [(0, .ref (a 0)), (1, .int (nI (i)))]) (by decide) rfl rfl rfl (Nat.le_of_ble_eq_true rfl) ?_
  intro pg ev s m below meth c hx hb hr hts hown hlocks hml hnm hH hC ls hl
  subst hH
  have hLo := va_freeB hB0 hC.2.2.2.1
  have hD := hB0.self (sz := s.heap.size)
  have hS : va_S (va_A (y3W G a v mo ki pr df co bi g9 lr bf tn ln) s.heap.size) s.heap s.heap [] := va_S.rf
  unfold qMi
  generalize hAe : va_A (y3W G a v mo ki pr df co bi g9 lr bf tn ln) s.heap.size = A at hD hLo hS ⊢
  have hA : ∀ q, s.heap.size ≤ q → A q := fun q h => by rw [← hAe]; exact Or.inr h
  generalize ([] : List Loc) = locs at hS ⊢
  have hP := hP0
  refine lv_aload_n hx hb dX8_execute_0 rfl (lv_at hl 0 rfl) ?_
  refine va_get (D := gD G) (cl := vwCl) (tys := tyl G) (ci := 7) (v := .ref (a 20)) (C := RX8) (T := TX8) (N := 8) hx hb hts (by decide +kernel) hown hC.K hP 0 rfl rfl 4 (by decide) (hts (.fieldLink RX8 40 "MotionPost" "text" "LMotionPost$CommandText;") (by decide +kernel)) (fun _ h9 => h9) rfl dX8_execute_1 ?_
  refine lv_iload_n hx hb dX8_execute_4 rfl (lv_at hl 1 rfl) ?_
  refine kPi (va_runVN (As := [.int (nI (i))]) (rest := []) ⟨hx, hb, hml, hown, hts⟩ (c_X1_signAt (a 20) (a 21) tn ln i (by first | assumption | omega) (by first | assumption | omega) (by first | assumption | omega) (hP.sub [20, 21] rfl)) ⟨va_cnB 1 hts gX8_execute_X1_signAt_n296 rfl rfl rfl (hC.nest 75 rfl) (hts (.initialized RX1) (by decide +kernel)) (by decide +kernel) ⟨Nat.le_of_ble_eq_true rfl, Nat.le_of_ble_eq_true rfl⟩, (hts (.instanceMethod yX1_signAt) (by decide +kernel)), (hts (.selects RX1 yX1_signAt yX1_signAt) (by decide +kernel))⟩ (preV hC hS hLo hP (ci := 1) (q0 := 20) rfl rfl) rfl rfl hl.1 rfl (lv_room (Nat.le_of_ble_eq_true rfl)) dX8_execute_5 ⟨Nat.zero_le _, Nat.zero_le _⟩) hS (fun locs hS => ?_)
  refine topE (v' := nI (114)) (congrArg nI hsg) ?_
  refine lv_istore_n (lv' := [(2, .int (nI (114))), (0, .ref (a 0)), (1, .int (nI (i)))]) hx hb dX8_execute_8 rfl hl (by decide) rfl (fun ls hl => ?_)
  refine lv_iload_n hx hb dX8_execute_9 rfl (lv_at hl 0 rfl) ?_
  refine lv_lookup (off := 83) (tgt := 93) hx hb dX8_execute_10 (by decide) (by decide) (by decide) ?_
  refine lv_aload_n hx hb dX8_execute_93 rfl (lv_at hl 1 rfl) ?_
  refine lv_iconst (v := nI (0)) hx hb dX8_execute_94 (by decide) ?_
  refine lv_iconst (v := iI (-1)) hx hb dX8_execute_95 (by decide) ?_
  refine kWi (va_runV (As := [.int (nI (0)), .int (iI (-1))]) (rest := []) ⟨hx, hb, hml, hown, hts⟩ (c_X8_scrollDrawn_y a v mo ki pr df co bi g9 lr bf tn ln 0 (-1) (by first | assumption | omega) (by first | assumption | omega) (by first | assumption | omega) hP (hD.weaken (fun _ _ _ h => hLo _ h))) (cwV 2 hts gX8_execute_X8_scrollDrawn rfl rfl rfl (by decide +kernel) ⟨Nat.le_of_ble_eq_true rfl, Nat.le_of_ble_eq_true rfl⟩) (preV hC hS hLo hP (ci := 7) (q0 := 0) rfl rfl) rfl rfl hl.1 rfl (lv_room (Nat.le_of_ble_eq_true rfl)) dX8_execute_96 ⟨Nat.zero_le _, Nat.zero_le _⟩) hP hD hS hA (fun _ => rfl) (fun r_3 u_1 H locs q_2 hP hD hS => ?_)
  have hP : PP G (y3W G a ((tkm v.1 0 (-1) v.1 64).1, v.2.1, v.2.2.1, v.2.2.2.1, v.2.2.2.2.1, v.2.2.2.2.2.1, v.2.2.2.2.2.2.1, v.2.2.2.2.2.2.2.1, v.2.2.2.2.2.2.2.2.1, v.2.2.2.2.2.2.2.2.2) mo ki pr df co bi g9 lr v.1 tn ln) H := hP
  have hD : va_D A (y3W G a ((tkm v.1 0 (-1) v.1 64).1, v.2.1, v.2.2.1, v.2.2.2.1, v.2.2.2.2.1, v.2.2.2.2.2.1, v.2.2.2.2.2.2.1, v.2.2.2.2.2.2.2.1, v.2.2.2.2.2.2.2.2.1, v.2.2.2.2.2.2.2.2.2) mo ki pr df co bi g9 lr v.1 tn ln) := hD
  refine topE (v' := nI ((tkm v.1 0 (-1) v.1 64).2)) (q_2) ?_
  refine lv_pop hx hb dX8_execute_99 rfl ?_
  refine lv_iconst (v := nI (1)) hx hb dX8_execute_100 (by decide) ?_
  exact xMi (G := G) (post := (fun (r : Int32) (u : Unit) => r = nI (1))) (w1 := (fun (u : Unit) => y3W G a ((tkm v.1 (0) ((-1)) v.1 64).1, v.2.1, v.2.2.1, v.2.2.2.1, v.2.2.2.2.1, v.2.2.2.2.2.1, v.2.2.2.2.2.2.1, v.2.2.2.2.2.2.2.1, v.2.2.2.2.2.2.2.2.1, v.2.2.2.2.2.2.2.2.2) mo ki pr df co bi g9 lr v.1 tn ln)) (()) hx hb hr hlocks hP hS (by exact rfl) (by exact rfl) dX8_execute_101

set_option maxHeartbeats 4000000 in
set_option maxRecDepth 100000 in
theorem c_X8_execute_f0 {l : Launch} {G : GT} {H0 : Heap} (a : Nat → Nat) (v : SVT) (mo ki : Nat → Nat) (pr df : Nat → Int) (co : Int32) (bi : Nat) (g9 : Nat → Int32) (lr : Nat) (bf : Nat → Int) (tn : Nat → Nat) (ln : Nat) (i : Nat) (htn : T128 tn) (hln : ln ≤ 80) (hi9 : i ≤ 2147483647) (hkd : 1 ≤ v.2.2.2.2.2.2.1 ∧ v.2.2.2.2.2.2.1 ≤ 20) (hpi : v.2.2.2.2.2.2.2.1 ≤ 999) (hms : ¬ v.2.2.2.2.2.2.2.1 < 999) (hsg : sgn tn ln i = 115) (hP0 : PP G (y3W G a v mo ki pr df co bi g9 lr bf tn ln) H0) (hB0 : va_D (lo G) (y3W G a v mo ki pr df co bi g9 lr bf tn ln)) : Met l yX8_execute wsX8_execute ({ frames := 5, cells := 0, slots := 0, locals := 121 } : Room) (pcG G [.ref (a 0), .int (nI (i))] H0) (qMi G (fun (r : Int32) (u : Unit) => r = nI (0)) (fun (u : Unit) => y3W G a v mo ki pr df co bi g9 lr bf tn ln) (y3W G a v mo ki pr df co bi g9 lr bf tn ln) H0) 0 0 (va_A (y3W G a v mo ki pr df co bi g9 lr bf tn ln) H0.size) := by
  refine enter (cc := cX8_execute) (maxL := 3) (ret := some .boolean) (own := RX8) (lv := [(0, .ref (a 0)), (1, .int (nI (i)))]) (by decide) rfl rfl rfl (Nat.le_of_ble_eq_true rfl) ?_
  intro pg ev s m below meth c hx hb hr hts hown hlocks hml hnm hH hC ls hl
  subst hH
  have hLo := va_freeB hB0 hC.2.2.2.1
  have hD := hB0.self (sz := s.heap.size)
  have hS : va_S (va_A (y3W G a v mo ki pr df co bi g9 lr bf tn ln) s.heap.size) s.heap s.heap [] := va_S.rf
  unfold qMi
  generalize hAe : va_A (y3W G a v mo ki pr df co bi g9 lr bf tn ln) s.heap.size = A at hD hLo hS ⊢
  have hA : ∀ q, s.heap.size ≤ q → A q := fun q h => by rw [← hAe]; exact Or.inr h
  generalize ([] : List Loc) = locs at hS ⊢
  have hP := hP0
  refine lv_aload_n hx hb dX8_execute_0 rfl (lv_at hl 0 rfl) ?_
  refine va_get (D := gD G) (cl := vwCl) (tys := tyl G) (ci := 7) (v := .ref (a 20)) (C := RX8) (T := TX8) (N := 8) hx hb hts (by decide +kernel) hown hC.K hP 0 rfl rfl 4 (by decide) (hts (.fieldLink RX8 40 "MotionPost" "text" "LMotionPost$CommandText;") (by decide +kernel)) (fun _ h9 => h9) rfl dX8_execute_1 ?_
  refine lv_iload_n hx hb dX8_execute_4 rfl (lv_at hl 1 rfl) ?_
  refine kPi (va_runVN (As := [.int (nI (i))]) (rest := []) ⟨hx, hb, hml, hown, hts⟩ (c_X1_signAt (a 20) (a 21) tn ln i (by first | assumption | omega) (by first | assumption | omega) (by first | assumption | omega) (hP.sub [20, 21] rfl)) ⟨va_cnB 1 hts gX8_execute_X1_signAt_n296 rfl rfl rfl (hC.nest 75 rfl) (hts (.initialized RX1) (by decide +kernel)) (by decide +kernel) ⟨Nat.le_of_ble_eq_true rfl, Nat.le_of_ble_eq_true rfl⟩, (hts (.instanceMethod yX1_signAt) (by decide +kernel)), (hts (.selects RX1 yX1_signAt yX1_signAt) (by decide +kernel))⟩ (preV hC hS hLo hP (ci := 1) (q0 := 20) rfl rfl) rfl rfl hl.1 rfl (lv_room (Nat.le_of_ble_eq_true rfl)) dX8_execute_5 ⟨Nat.zero_le _, Nat.zero_le _⟩) hS (fun locs hS => ?_)
  refine topE (v' := nI (115)) (congrArg nI hsg) ?_
  refine lv_istore_n (lv' := [(2, .int (nI (115))), (0, .ref (a 0)), (1, .int (nI (i)))]) hx hb dX8_execute_8 rfl hl (by decide) rfl (fun ls hl => ?_)
  refine lv_iload_n hx hb dX8_execute_9 rfl (lv_at hl 0 rfl) ?_
  refine lv_lookup (off := 92) (tgt := 102) hx hb dX8_execute_10 (by decide) (by decide) (by decide) ?_
  refine lv_aload_n hx hb dX8_execute_102 rfl (lv_at hl 1 rfl) ?_
  refine kPi (va_runV (As := []) (rest := []) ⟨hx, hb, hml, hown, hts⟩ (c_X8_maySend a v (by first | assumption | omega) (by first | assumption | omega) (hP.sub [0, 1, 2, 3, 4, 5, 6, 7, 8, 9] rfl)) (cwV 0 hts gX8_execute_X8_maySend rfl rfl rfl (by decide +kernel) ⟨Nat.le_of_ble_eq_true rfl, Nat.le_of_ble_eq_true rfl⟩) (preV hC hS hLo hP (ci := 7) (q0 := 0) rfl rfl) rfl rfl hl.1 rfl (lv_room (Nat.le_of_ble_eq_true rfl)) dX8_execute_103 ⟨Nat.zero_le _, Nat.zero_le _⟩) hS (fun locs hS => ?_)
  refine topE (v' := nI (0)) (bI_f hms) ?_
  refine lv_if_ne (tgt := 111) hx hb dX8_execute_106 (by decide) (fun c_1 => ?_) (fun c_1 => ?_)
  · have f_2 : ¬ (0 : Int) = (0 : Int) := fun z => c_1 ((c_eq (nI_toInt (n := 0) (by omega)) rfl).mpr z)
    exfalso; omega
  · have f_3 : (0 : Int) = (0 : Int) := (c_eq (nI_toInt (n := 0) (by omega)) rfl).mp c_1
    refine lv_iconst (v := nI (0)) hx hb dX8_execute_109 (by decide) ?_
    exact xMi (G := G) (post := (fun (r : Int32) (u : Unit) => r = nI (0))) (w1 := (fun (u : Unit) => y3W G a v mo ki pr df co bi g9 lr bf tn ln)) (()) hx hb hr hlocks hP hS (by exact rfl) (by exact rfl) dX8_execute_110

set_option maxHeartbeats 4000000 in
set_option maxRecDepth 100000 in
theorem c_X8_execute_sn0 {l : Launch} {G : GT} {H0 : Heap} (a : Nat → Nat) (v : SVT) (mo ki : Nat → Nat) (pr df : Nat → Int) (co : Int32) (bi : Nat) (g9 : Nat → Int32) (lr : Nat) (bf : Nat → Int) (tn : Nat → Nat) (ln : Nat) (i : Nat) (htn : T128 tn) (hln : ln ≤ 80) (hi9 : i ≤ 2147483647) (hms : v.2.2.2.2.2.2.2.1 < 999) (hd : R15 v.1) (ht : R15 v.2.1) (hg : R15 v.2.2.1) (hdf : D15 df) (hmo : M25 mo) (hkd : 1 ≤ v.2.2.2.2.2.2.1 ∧ v.2.2.2.2.2.2.1 ≤ 20) (hpi : v.2.2.2.2.2.2.2.1 ≤ 999) (hkey : ¬ v.2.2.2.2.2.2.2.1 % v.2.2.2.2.2.2.1 = 0) (hbu : v.2.2.2.2.2.1 ≤ 300) (hsg : sgn tn ln i = 115) (hP0 : PP G (y3W G a v mo ki pr df co bi g9 lr bf tn ln) H0) (hB0 : va_D (lo G) (y3W G a v mo ki pr df co bi g9 lr bf tn ln)) : Met l yX8_execute wsX8_execute ({ frames := 5, cells := 0, slots := 0, locals := 121 } : Room) (pcG G [.ref (a 0), .int (nI (i))] H0) (qMi G (fun (r : Int32) (u : Unit) => r = nI (1)) (fun (u : Unit) => y3W G a (v.1, nT v.1 v.2.1 v.2.2.2.2.2.1, nG v.1 v.2.1 v.2.2.1 v.2.2.2.2.2.1, knN v.1 v.2.1 v.2.2.2.2.2.1, BEST v.1 v.2.1, v.2.2.2.2.2.1, v.2.2.2.2.2.2.1, v.2.2.2.2.2.2.2.1 + 1, v.2.2.2.2.2.2.2.2.1, v.2.2.2.2.2.2.2.2.2 + ABM v.1 v.2.1 (COM v.1 v.2.1 v.2.2.2.2.2.1) 4) (BEST v.1 v.2.1) (knN v.1 v.2.1 v.2.2.2.2.2.1) (pN v.1 v.2.1) (dN v.1 v.2.1) (nI (COM v.1 v.2.1 v.2.2.2.2.2.1)) (ABM v.1 v.2.1 (COM v.1 v.2.1 v.2.2.2.2.2.1) 4) g9 lr v.2.2.1 tn ln) (y3W G a v mo ki pr df co bi g9 lr bf tn ln) H0) 0 0 (va_A (y3W G a v mo ki pr df co bi g9 lr bf tn ln) H0.size) := by
  refine enter (cc := cX8_execute) (maxL := 3) (ret := some .boolean) (own := RX8) (lv := [(0, .ref (a 0)), (1, .int (nI (i)))]) (by decide) rfl rfl rfl (Nat.le_of_ble_eq_true rfl) ?_
  intro pg ev s m below meth c hx hb hr hts hown hlocks hml hnm hH hC ls hl
  subst hH
  have hLo := va_freeB hB0 hC.2.2.2.1
  have hD := hB0.self (sz := s.heap.size)
  have hS : va_S (va_A (y3W G a v mo ki pr df co bi g9 lr bf tn ln) s.heap.size) s.heap s.heap [] := va_S.rf
  unfold qMi
  generalize hAe : va_A (y3W G a v mo ki pr df co bi g9 lr bf tn ln) s.heap.size = A at hD hLo hS ⊢
  have hA : ∀ q, s.heap.size ≤ q → A q := fun q h => by rw [← hAe]; exact Or.inr h
  generalize ([] : List Loc) = locs at hS ⊢
  have hP := hP0
  refine lv_aload_n hx hb dX8_execute_0 rfl (lv_at hl 0 rfl) ?_
  refine va_get (D := gD G) (cl := vwCl) (tys := tyl G) (ci := 7) (v := .ref (a 20)) (C := RX8) (T := TX8) (N := 8) hx hb hts (by decide +kernel) hown hC.K hP 0 rfl rfl 4 (by decide) (hts (.fieldLink RX8 40 "MotionPost" "text" "LMotionPost$CommandText;") (by decide +kernel)) (fun _ h9 => h9) rfl dX8_execute_1 ?_
  refine lv_iload_n hx hb dX8_execute_4 rfl (lv_at hl 1 rfl) ?_
  refine kPi (va_runVN (As := [.int (nI (i))]) (rest := []) ⟨hx, hb, hml, hown, hts⟩ (c_X1_signAt (a 20) (a 21) tn ln i (by first | assumption | omega) (by first | assumption | omega) (by first | assumption | omega) (hP.sub [20, 21] rfl)) ⟨va_cnB 1 hts gX8_execute_X1_signAt_n296 rfl rfl rfl (hC.nest 75 rfl) (hts (.initialized RX1) (by decide +kernel)) (by decide +kernel) ⟨Nat.le_of_ble_eq_true rfl, Nat.le_of_ble_eq_true rfl⟩, (hts (.instanceMethod yX1_signAt) (by decide +kernel)), (hts (.selects RX1 yX1_signAt yX1_signAt) (by decide +kernel))⟩ (preV hC hS hLo hP (ci := 1) (q0 := 20) rfl rfl) rfl rfl hl.1 rfl (lv_room (Nat.le_of_ble_eq_true rfl)) dX8_execute_5 ⟨Nat.zero_le _, Nat.zero_le _⟩) hS (fun locs hS => ?_)
  refine topE (v' := nI (115)) (congrArg nI hsg) ?_
  refine lv_istore_n (lv' := [(2, .int (nI (115))), (0, .ref (a 0)), (1, .int (nI (i)))]) hx hb dX8_execute_8 rfl hl (by decide) rfl (fun ls hl => ?_)
  refine lv_iload_n hx hb dX8_execute_9 rfl (lv_at hl 0 rfl) ?_
  refine lv_lookup (off := 92) (tgt := 102) hx hb dX8_execute_10 (by decide) (by decide) (by decide) ?_
  refine lv_aload_n hx hb dX8_execute_102 rfl (lv_at hl 1 rfl) ?_
  refine kPi (va_runV (As := []) (rest := []) ⟨hx, hb, hml, hown, hts⟩ (c_X8_maySend a v (by first | assumption | omega) (by first | assumption | omega) (hP.sub [0, 1, 2, 3, 4, 5, 6, 7, 8, 9] rfl)) (cwV 0 hts gX8_execute_X8_maySend rfl rfl rfl (by decide +kernel) ⟨Nat.le_of_ble_eq_true rfl, Nat.le_of_ble_eq_true rfl⟩) (preV hC hS hLo hP (ci := 7) (q0 := 0) rfl rfl) rfl rfl hl.1 rfl (lv_room (Nat.le_of_ble_eq_true rfl)) dX8_execute_103 ⟨Nat.zero_le _, Nat.zero_le _⟩) hS (fun locs hS => ?_)
  refine topE (v' := nI (1)) (bI_t hms) ?_
  refine lv_if_ne (tgt := 111) hx hb dX8_execute_106 (by decide) (fun c_1 => ?_) (fun c_1 => ?_)
  · have f_2 : ¬ (1 : Int) = (0 : Int) := fun z => c_1 ((c_eq (nI_toInt (n := 1) (by omega)) rfl).mpr z)
    refine lv_aload_n hx hb dX8_execute_111 rfl (lv_at hl 1 rfl) ?_
    refine lv_iload_n hx hb dX8_execute_112 rfl (lv_at hl 0 rfl) ?_
    refine lv_bipush (v := nI (120)) hx hb dX8_execute_113 (by decide) ?_
    refine lv_icmp_ne (tgt := 122) hx hb dX8_execute_115 (by decide) (fun c_3 => ?_) (fun c_3 => ?_)
    · have f_4 : ¬ (115 : Int) = (120 : Int) := fun z => c_3 ((c_eq (nI_toInt (n := 115) (by omega)) (nI_toInt (n := 120) (by omega))).mpr z)
      refine lv_iconst (v := nI (0)) hx hb dX8_execute_122 (by decide) ?_
      refine kWi (va_runV (As := [.int (nI (0))]) (rest := []) ⟨hx, hb, hml, hown, hts⟩ (c_X8_sendDrawn_n0 a v mo ki pr df co bi g9 lr bf tn ln (by first | assumption | omega) (by first | assumption | omega) (by first | assumption | omega) (by first | assumption | omega) (by first | assumption | omega) (by first | assumption | omega) (by first | assumption | omega) (by first | assumption | omega) (by first | assumption | omega) hP (hD.weaken (fun _ _ _ h => hLo _ h))) (cwV 1 hts gX8_execute_X8_sendDrawn rfl rfl rfl (by decide +kernel) ⟨Nat.le_of_ble_eq_true rfl, Nat.le_of_ble_eq_true rfl⟩) (preV hC hS hLo hP (ci := 7) (q0 := 0) rfl rfl) rfl rfl hl.1 rfl (lv_room (Nat.le_of_ble_eq_true rfl)) dX8_execute_123 ⟨Nat.zero_le _, Nat.zero_le _⟩) hP hD hS hA (fun _ => rfl) (fun r_7 u_5 H locs q_6 hP hD hS => ?_)
      have hP : PP G (y3W G a (v.1, nT v.1 v.2.1 v.2.2.2.2.2.1, nG v.1 v.2.1 v.2.2.1 v.2.2.2.2.2.1, knN v.1 v.2.1 v.2.2.2.2.2.1, BEST v.1 v.2.1, v.2.2.2.2.2.1, v.2.2.2.2.2.2.1, v.2.2.2.2.2.2.2.1 + 1, v.2.2.2.2.2.2.2.2.1, v.2.2.2.2.2.2.2.2.2 + ABM v.1 v.2.1 (COM v.1 v.2.1 v.2.2.2.2.2.1) 4) (BEST v.1 v.2.1) (knN v.1 v.2.1 v.2.2.2.2.2.1) (pN v.1 v.2.1) (dN v.1 v.2.1) (nI (COM v.1 v.2.1 v.2.2.2.2.2.1)) (ABM v.1 v.2.1 (COM v.1 v.2.1 v.2.2.2.2.2.1) 4) g9 lr v.2.2.1 tn ln) H := hP
      have hD : va_D A (y3W G a (v.1, nT v.1 v.2.1 v.2.2.2.2.2.1, nG v.1 v.2.1 v.2.2.1 v.2.2.2.2.2.1, knN v.1 v.2.1 v.2.2.2.2.2.1, BEST v.1 v.2.1, v.2.2.2.2.2.1, v.2.2.2.2.2.2.1, v.2.2.2.2.2.2.2.1 + 1, v.2.2.2.2.2.2.2.2.1, v.2.2.2.2.2.2.2.2.2 + ABM v.1 v.2.1 (COM v.1 v.2.1 v.2.2.2.2.2.1) 4) (BEST v.1 v.2.1) (knN v.1 v.2.1 v.2.2.2.2.2.1) (pN v.1 v.2.1) (dN v.1 v.2.1) (nI (COM v.1 v.2.1 v.2.2.2.2.2.1)) (ABM v.1 v.2.1 (COM v.1 v.2.1 v.2.2.2.2.2.1) 4) g9 lr v.2.2.1 tn ln) := hD
      refine topE (v' := nI (ABM v.1 v.2.1 (COM v.1 v.2.1 v.2.2.2.2.2.1) 4)) (q_6) ?_
      refine lv_pop hx hb dX8_execute_126 rfl ?_
      refine lv_iconst (v := nI (1)) hx hb dX8_execute_127 (by decide) ?_
      exact xMi (G := G) (post := (fun (r : Int32) (u : Unit) => r = nI (1))) (w1 := (fun (u : Unit) => y3W G a (v.1, nT v.1 v.2.1 v.2.2.2.2.2.1, nG v.1 v.2.1 v.2.2.1 v.2.2.2.2.2.1, knN v.1 v.2.1 v.2.2.2.2.2.1, BEST v.1 v.2.1, v.2.2.2.2.2.1, v.2.2.2.2.2.2.1, v.2.2.2.2.2.2.2.1 + 1, v.2.2.2.2.2.2.2.2.1, v.2.2.2.2.2.2.2.2.2 + ABM v.1 v.2.1 (COM v.1 v.2.1 v.2.2.2.2.2.1) 4) (BEST v.1 v.2.1) (knN v.1 v.2.1 v.2.2.2.2.2.1) (pN v.1 v.2.1) (dN v.1 v.2.1) (nI (COM v.1 v.2.1 v.2.2.2.2.2.1)) (ABM v.1 v.2.1 (COM v.1 v.2.1 v.2.2.2.2.2.1) 4) g9 lr v.2.2.1 tn ln)) (()) hx hb hr hlocks hP hS (by exact rfl) (by exact rfl) dX8_execute_128
    · have f_8 : (115 : Int) = (120 : Int) := (c_eq (nI_toInt (n := 115) (by omega)) (nI_toInt (n := 120) (by omega))).mp c_3
      exfalso; omega
  · have f_9 : (1 : Int) = (0 : Int) := (c_eq (nI_toInt (n := 1) (by omega)) rfl).mp c_1
    exfalso; omega

set_option maxHeartbeats 4000000 in
set_option maxRecDepth 100000 in
theorem c_X8_execute_sk0 {l : Launch} {G : GT} {H0 : Heap} (a : Nat → Nat) (v : SVT) (mo ki : Nat → Nat) (pr df : Nat → Int) (co : Int32) (bi : Nat) (g9 : Nat → Int32) (lr : Nat) (bf : Nat → Int) (tn : Nat → Nat) (ln : Nat) (i : Nat) (htn : T128 tn) (hln : ln ≤ 80) (hi9 : i ≤ 2147483647) (hms : v.2.2.2.2.2.2.2.1 < 999) (hkd : 1 ≤ v.2.2.2.2.2.2.1 ∧ v.2.2.2.2.2.2.1 ≤ 20) (hpi : v.2.2.2.2.2.2.2.1 ≤ 999) (hkey : v.2.2.2.2.2.2.2.1 % v.2.2.2.2.2.2.1 = 0) (hsg : sgn tn ln i = 115) (hP0 : PP G (y3W G a v mo ki pr df co bi g9 lr bf tn ln) H0) (hB0 : va_D (lo G) (y3W G a v mo ki pr df co bi g9 lr bf tn ln)) : Met l yX8_execute wsX8_execute ({ frames := 5, cells := 0, slots := 0, locals := 121 } : Room) (pcG G [.ref (a 0), .int (nI (i))] H0) (qMi G (fun (r : Int32) (u : Unit) => r = nI (1)) (fun (u : Unit) => y3W G a (v.1, v.1, v.1, fun _ => 0, mo, v.2.2.2.2.2.1, v.2.2.2.2.2.2.1, v.2.2.2.2.2.2.2.1 + 1, v.2.2.2.2.2.2.2.2.1, v.2.2.2.2.2.2.2.2.2 + 264) mo (fzK ki 4) pr df (iI (-1)) 264 g9 lr v.2.2.1 tn ln) (y3W G a v mo ki pr df co bi g9 lr bf tn ln) H0) 0 0 (va_A (y3W G a v mo ki pr df co bi g9 lr bf tn ln) H0.size) := by
  refine enter (cc := cX8_execute) (maxL := 3) (ret := some .boolean) (own := RX8) (lv := [(0, .ref (a 0)), (1, .int (nI (i)))]) (by decide) rfl rfl rfl (Nat.le_of_ble_eq_true rfl) ?_
  intro pg ev s m below meth c hx hb hr hts hown hlocks hml hnm hH hC ls hl
  subst hH
  have hLo := va_freeB hB0 hC.2.2.2.1
  have hD := hB0.self (sz := s.heap.size)
  have hS : va_S (va_A (y3W G a v mo ki pr df co bi g9 lr bf tn ln) s.heap.size) s.heap s.heap [] := va_S.rf
  unfold qMi
  generalize hAe : va_A (y3W G a v mo ki pr df co bi g9 lr bf tn ln) s.heap.size = A at hD hLo hS ⊢
  have hA : ∀ q, s.heap.size ≤ q → A q := fun q h => by rw [← hAe]; exact Or.inr h
  generalize ([] : List Loc) = locs at hS ⊢
  have hP := hP0
  refine lv_aload_n hx hb dX8_execute_0 rfl (lv_at hl 0 rfl) ?_
  refine va_get (D := gD G) (cl := vwCl) (tys := tyl G) (ci := 7) (v := .ref (a 20)) (C := RX8) (T := TX8) (N := 8) hx hb hts (by decide +kernel) hown hC.K hP 0 rfl rfl 4 (by decide) (hts (.fieldLink RX8 40 "MotionPost" "text" "LMotionPost$CommandText;") (by decide +kernel)) (fun _ h9 => h9) rfl dX8_execute_1 ?_
  refine lv_iload_n hx hb dX8_execute_4 rfl (lv_at hl 1 rfl) ?_
  refine kPi (va_runVN (As := [.int (nI (i))]) (rest := []) ⟨hx, hb, hml, hown, hts⟩ (c_X1_signAt (a 20) (a 21) tn ln i (by first | assumption | omega) (by first | assumption | omega) (by first | assumption | omega) (hP.sub [20, 21] rfl)) ⟨va_cnB 1 hts gX8_execute_X1_signAt_n296 rfl rfl rfl (hC.nest 75 rfl) (hts (.initialized RX1) (by decide +kernel)) (by decide +kernel) ⟨Nat.le_of_ble_eq_true rfl, Nat.le_of_ble_eq_true rfl⟩, (hts (.instanceMethod yX1_signAt) (by decide +kernel)), (hts (.selects RX1 yX1_signAt yX1_signAt) (by decide +kernel))⟩ (preV hC hS hLo hP (ci := 1) (q0 := 20) rfl rfl) rfl rfl hl.1 rfl (lv_room (Nat.le_of_ble_eq_true rfl)) dX8_execute_5 ⟨Nat.zero_le _, Nat.zero_le _⟩) hS (fun locs hS => ?_)
  refine topE (v' := nI (115)) (congrArg nI hsg) ?_
  refine lv_istore_n (lv' := [(2, .int (nI (115))), (0, .ref (a 0)), (1, .int (nI (i)))]) hx hb dX8_execute_8 rfl hl (by decide) rfl (fun ls hl => ?_)
  refine lv_iload_n hx hb dX8_execute_9 rfl (lv_at hl 0 rfl) ?_
  refine lv_lookup (off := 92) (tgt := 102) hx hb dX8_execute_10 (by decide) (by decide) (by decide) ?_
  refine lv_aload_n hx hb dX8_execute_102 rfl (lv_at hl 1 rfl) ?_
  refine kPi (va_runV (As := []) (rest := []) ⟨hx, hb, hml, hown, hts⟩ (c_X8_maySend a v (by first | assumption | omega) (by first | assumption | omega) (hP.sub [0, 1, 2, 3, 4, 5, 6, 7, 8, 9] rfl)) (cwV 0 hts gX8_execute_X8_maySend rfl rfl rfl (by decide +kernel) ⟨Nat.le_of_ble_eq_true rfl, Nat.le_of_ble_eq_true rfl⟩) (preV hC hS hLo hP (ci := 7) (q0 := 0) rfl rfl) rfl rfl hl.1 rfl (lv_room (Nat.le_of_ble_eq_true rfl)) dX8_execute_103 ⟨Nat.zero_le _, Nat.zero_le _⟩) hS (fun locs hS => ?_)
  refine topE (v' := nI (1)) (bI_t hms) ?_
  refine lv_if_ne (tgt := 111) hx hb dX8_execute_106 (by decide) (fun c_1 => ?_) (fun c_1 => ?_)
  · have f_2 : ¬ (1 : Int) = (0 : Int) := fun z => c_1 ((c_eq (nI_toInt (n := 1) (by omega)) rfl).mpr z)
    refine lv_aload_n hx hb dX8_execute_111 rfl (lv_at hl 1 rfl) ?_
    refine lv_iload_n hx hb dX8_execute_112 rfl (lv_at hl 0 rfl) ?_
    refine lv_bipush (v := nI (120)) hx hb dX8_execute_113 (by decide) ?_
    refine lv_icmp_ne (tgt := 122) hx hb dX8_execute_115 (by decide) (fun c_3 => ?_) (fun c_3 => ?_)
    · have f_4 : ¬ (115 : Int) = (120 : Int) := fun z => c_3 ((c_eq (nI_toInt (n := 115) (by omega)) (nI_toInt (n := 120) (by omega))).mpr z)
      refine lv_iconst (v := nI (0)) hx hb dX8_execute_122 (by decide) ?_
      refine kWi (va_runV (As := [.int (nI (0))]) (rest := []) ⟨hx, hb, hml, hown, hts⟩ (c_X8_sendDrawn_k0 a v mo ki pr df co bi g9 lr bf tn ln (by first | assumption | omega) (by first | assumption | omega) (by first | assumption | omega) hP (hD.weaken (fun _ _ _ h => hLo _ h))) (cwV 1 hts gX8_execute_X8_sendDrawn rfl rfl rfl (by decide +kernel) ⟨Nat.le_of_ble_eq_true rfl, Nat.le_of_ble_eq_true rfl⟩) (preV hC hS hLo hP (ci := 7) (q0 := 0) rfl rfl) rfl rfl hl.1 rfl (lv_room (Nat.le_of_ble_eq_true rfl)) dX8_execute_123 ⟨Nat.zero_le _, Nat.zero_le _⟩) hP hD hS hA (fun _ => rfl) (fun r_7 u_5 H locs q_6 hP hD hS => ?_)
      have hP : PP G (y3W G a (v.1, v.1, v.1, fun _ => 0, mo, v.2.2.2.2.2.1, v.2.2.2.2.2.2.1, v.2.2.2.2.2.2.2.1 + 1, v.2.2.2.2.2.2.2.2.1, v.2.2.2.2.2.2.2.2.2 + 264) mo (fzK ki 4) pr df (iI (-1)) 264 g9 lr v.2.2.1 tn ln) H := hP
      have hD : va_D A (y3W G a (v.1, v.1, v.1, fun _ => 0, mo, v.2.2.2.2.2.1, v.2.2.2.2.2.2.1, v.2.2.2.2.2.2.2.1 + 1, v.2.2.2.2.2.2.2.2.1, v.2.2.2.2.2.2.2.2.2 + 264) mo (fzK ki 4) pr df (iI (-1)) 264 g9 lr v.2.2.1 tn ln) := hD
      refine topE (v' := nI (264)) (q_6) ?_
      refine lv_pop hx hb dX8_execute_126 rfl ?_
      refine lv_iconst (v := nI (1)) hx hb dX8_execute_127 (by decide) ?_
      exact xMi (G := G) (post := (fun (r : Int32) (u : Unit) => r = nI (1))) (w1 := (fun (u : Unit) => y3W G a (v.1, v.1, v.1, fun _ => 0, mo, v.2.2.2.2.2.1, v.2.2.2.2.2.2.1, v.2.2.2.2.2.2.2.1 + 1, v.2.2.2.2.2.2.2.2.1, v.2.2.2.2.2.2.2.2.2 + 264) mo (fzK ki 4) pr df (iI (-1)) 264 g9 lr v.2.2.1 tn ln)) (()) hx hb hr hlocks hP hS (by exact rfl) (by exact rfl) dX8_execute_128
    · have f_8 : (115 : Int) = (120 : Int) := (c_eq (nI_toInt (n := 115) (by omega)) (nI_toInt (n := 120) (by omega))).mp c_3
      exfalso; omega
  · have f_9 : (1 : Int) = (0 : Int) := (c_eq (nI_toInt (n := 1) (by omega)) rfl).mp c_1
    exfalso; omega

set_option maxHeartbeats 4000000 in
set_option maxRecDepth 100000 in
theorem c_X8_execute_f1 {l : Launch} {G : GT} {H0 : Heap} (a : Nat → Nat) (v : SVT) (mo ki : Nat → Nat) (pr df : Nat → Int) (co : Int32) (bi : Nat) (g9 : Nat → Int32) (lr : Nat) (bf : Nat → Int) (tn : Nat → Nat) (ln : Nat) (i : Nat) (htn : T128 tn) (hln : ln ≤ 80) (hi9 : i ≤ 2147483647) (hkd : 1 ≤ v.2.2.2.2.2.2.1 ∧ v.2.2.2.2.2.2.1 ≤ 20) (hpi : v.2.2.2.2.2.2.2.1 ≤ 999) (hms : ¬ v.2.2.2.2.2.2.2.1 < 999) (hsg : sgn tn ln i = 120) (hP0 : PP G (y3W G a v mo ki pr df co bi g9 lr bf tn ln) H0) (hB0 : va_D (lo G) (y3W G a v mo ki pr df co bi g9 lr bf tn ln)) : Met l yX8_execute wsX8_execute ({ frames := 5, cells := 0, slots := 0, locals := 121 } : Room) (pcG G [.ref (a 0), .int (nI (i))] H0) (qMi G (fun (r : Int32) (u : Unit) => r = nI (0)) (fun (u : Unit) => y3W G a v mo ki pr df co bi g9 lr bf tn ln) (y3W G a v mo ki pr df co bi g9 lr bf tn ln) H0) 0 0 (va_A (y3W G a v mo ki pr df co bi g9 lr bf tn ln) H0.size) := by
  refine enter (cc := cX8_execute) (maxL := 3) (ret := some .boolean) (own := RX8) (lv := [(0, .ref (a 0)), (1, .int (nI (i)))]) (by decide) rfl rfl rfl (Nat.le_of_ble_eq_true rfl) ?_
  intro pg ev s m below meth c hx hb hr hts hown hlocks hml hnm hH hC ls hl
  subst hH
  have hLo := va_freeB hB0 hC.2.2.2.1
  have hD := hB0.self (sz := s.heap.size)
  have hS : va_S (va_A (y3W G a v mo ki pr df co bi g9 lr bf tn ln) s.heap.size) s.heap s.heap [] := va_S.rf
  unfold qMi
  generalize hAe : va_A (y3W G a v mo ki pr df co bi g9 lr bf tn ln) s.heap.size = A at hD hLo hS ⊢
  have hA : ∀ q, s.heap.size ≤ q → A q := fun q h => by rw [← hAe]; exact Or.inr h
  generalize ([] : List Loc) = locs at hS ⊢
  have hP := hP0
  refine lv_aload_n hx hb dX8_execute_0 rfl (lv_at hl 0 rfl) ?_
  refine va_get (D := gD G) (cl := vwCl) (tys := tyl G) (ci := 7) (v := .ref (a 20)) (C := RX8) (T := TX8) (N := 8) hx hb hts (by decide +kernel) hown hC.K hP 0 rfl rfl 4 (by decide) (hts (.fieldLink RX8 40 "MotionPost" "text" "LMotionPost$CommandText;") (by decide +kernel)) (fun _ h9 => h9) rfl dX8_execute_1 ?_
  refine lv_iload_n hx hb dX8_execute_4 rfl (lv_at hl 1 rfl) ?_
  refine kPi (va_runVN (As := [.int (nI (i))]) (rest := []) ⟨hx, hb, hml, hown, hts⟩ (c_X1_signAt (a 20) (a 21) tn ln i (by first | assumption | omega) (by first | assumption | omega) (by first | assumption | omega) (hP.sub [20, 21] rfl)) ⟨va_cnB 1 hts gX8_execute_X1_signAt_n296 rfl rfl rfl (hC.nest 75 rfl) (hts (.initialized RX1) (by decide +kernel)) (by decide +kernel) ⟨Nat.le_of_ble_eq_true rfl, Nat.le_of_ble_eq_true rfl⟩, (hts (.instanceMethod yX1_signAt) (by decide +kernel)), (hts (.selects RX1 yX1_signAt yX1_signAt) (by decide +kernel))⟩ (preV hC hS hLo hP (ci := 1) (q0 := 20) rfl rfl) rfl rfl hl.1 rfl (lv_room (Nat.le_of_ble_eq_true rfl)) dX8_execute_5 ⟨Nat.zero_le _, Nat.zero_le _⟩) hS (fun locs hS => ?_)
  refine topE (v' := nI (120)) (congrArg nI hsg) ?_
  refine lv_istore_n (lv' := [(2, .int (nI (120))), (0, .ref (a 0)), (1, .int (nI (i)))]) hx hb dX8_execute_8 rfl hl (by decide) rfl (fun ls hl => ?_)
  refine lv_iload_n hx hb dX8_execute_9 rfl (lv_at hl 0 rfl) ?_
  refine lv_lookup (off := 92) (tgt := 102) hx hb dX8_execute_10 (by decide) (by decide) (by decide) ?_
  refine lv_aload_n hx hb dX8_execute_102 rfl (lv_at hl 1 rfl) ?_
  refine kPi (va_runV (As := []) (rest := []) ⟨hx, hb, hml, hown, hts⟩ (c_X8_maySend a v (by first | assumption | omega) (by first | assumption | omega) (hP.sub [0, 1, 2, 3, 4, 5, 6, 7, 8, 9] rfl)) (cwV 0 hts gX8_execute_X8_maySend rfl rfl rfl (by decide +kernel) ⟨Nat.le_of_ble_eq_true rfl, Nat.le_of_ble_eq_true rfl⟩) (preV hC hS hLo hP (ci := 7) (q0 := 0) rfl rfl) rfl rfl hl.1 rfl (lv_room (Nat.le_of_ble_eq_true rfl)) dX8_execute_103 ⟨Nat.zero_le _, Nat.zero_le _⟩) hS (fun locs hS => ?_)
  refine topE (v' := nI (0)) (bI_f hms) ?_
  refine lv_if_ne (tgt := 111) hx hb dX8_execute_106 (by decide) (fun c_1 => ?_) (fun c_1 => ?_)
  · have f_2 : ¬ (0 : Int) = (0 : Int) := fun z => c_1 ((c_eq (nI_toInt (n := 0) (by omega)) rfl).mpr z)
    exfalso; omega
  · have f_3 : (0 : Int) = (0 : Int) := (c_eq (nI_toInt (n := 0) (by omega)) rfl).mp c_1
    refine lv_iconst (v := nI (0)) hx hb dX8_execute_109 (by decide) ?_
    exact xMi (G := G) (post := (fun (r : Int32) (u : Unit) => r = nI (0))) (w1 := (fun (u : Unit) => y3W G a v mo ki pr df co bi g9 lr bf tn ln)) (()) hx hb hr hlocks hP hS (by exact rfl) (by exact rfl) dX8_execute_110

set_option maxHeartbeats 4000000 in
set_option maxRecDepth 100000 in
theorem c_X8_execute_sn1 {l : Launch} {G : GT} {H0 : Heap} (a : Nat → Nat) (v : SVT) (mo ki : Nat → Nat) (pr df : Nat → Int) (co : Int32) (bi : Nat) (g9 : Nat → Int32) (lr : Nat) (bf : Nat → Int) (tn : Nat → Nat) (ln : Nat) (i : Nat) (htn : T128 tn) (hln : ln ≤ 80) (hi9 : i ≤ 2147483647) (hms : v.2.2.2.2.2.2.2.1 < 999) (hd : R15 v.1) (ht : R15 v.2.1) (hg : R15 v.2.2.1) (hdf : D15 df) (hmo : M25 mo) (hkd : 1 ≤ v.2.2.2.2.2.2.1 ∧ v.2.2.2.2.2.2.1 ≤ 20) (hpi : v.2.2.2.2.2.2.2.1 ≤ 999) (hkey : ¬ v.2.2.2.2.2.2.2.1 % v.2.2.2.2.2.2.1 = 0) (hbu : v.2.2.2.2.2.1 ≤ 300) (hsg : sgn tn ln i = 120) (hP0 : PP G (y3W G a v mo ki pr df co bi g9 lr bf tn ln) H0) (hB0 : va_D (lo G) (y3W G a v mo ki pr df co bi g9 lr bf tn ln)) : Met l yX8_execute wsX8_execute ({ frames := 5, cells := 0, slots := 0, locals := 121 } : Room) (pcG G [.ref (a 0), .int (nI (i))] H0) (qMi G (fun (r : Int32) (u : Unit) => r = nI (1)) (fun (u : Unit) => y3W G a (v.1, nT v.1 v.2.1 v.2.2.2.2.2.1, v.2.2.1, knN v.1 v.2.1 v.2.2.2.2.2.1, BEST v.1 v.2.1, v.2.2.2.2.2.1, v.2.2.2.2.2.2.1, v.2.2.2.2.2.2.2.1 + 1, v.2.2.2.2.2.2.2.2.1 + 1, v.2.2.2.2.2.2.2.2.2 + ABM v.1 v.2.1 (COM v.1 v.2.1 v.2.2.2.2.2.1) 4) (BEST v.1 v.2.1) (knN v.1 v.2.1 v.2.2.2.2.2.1) (pN v.1 v.2.1) (dN v.1 v.2.1) (nI (COM v.1 v.2.1 v.2.2.2.2.2.1)) (ABM v.1 v.2.1 (COM v.1 v.2.1 v.2.2.2.2.2.1) 4) g9 lr bf tn ln) (y3W G a v mo ki pr df co bi g9 lr bf tn ln) H0) 0 0 (va_A (y3W G a v mo ki pr df co bi g9 lr bf tn ln) H0.size) := by
  refine enter (cc := cX8_execute) (maxL := 3) (ret := some .boolean) (own := RX8) (lv := [(0, .ref (a 0)), (1, .int (nI (i)))]) (by decide) rfl rfl rfl (Nat.le_of_ble_eq_true rfl) ?_
  intro pg ev s m below meth c hx hb hr hts hown hlocks hml hnm hH hC ls hl
  subst hH
  have hLo := va_freeB hB0 hC.2.2.2.1
  have hD := hB0.self (sz := s.heap.size)
  have hS : va_S (va_A (y3W G a v mo ki pr df co bi g9 lr bf tn ln) s.heap.size) s.heap s.heap [] := va_S.rf
  unfold qMi
  generalize hAe : va_A (y3W G a v mo ki pr df co bi g9 lr bf tn ln) s.heap.size = A at hD hLo hS ⊢
  have hA : ∀ q, s.heap.size ≤ q → A q := fun q h => by rw [← hAe]; exact Or.inr h
  generalize ([] : List Loc) = locs at hS ⊢
  have hP := hP0
  refine lv_aload_n hx hb dX8_execute_0 rfl (lv_at hl 0 rfl) ?_
  refine va_get (D := gD G) (cl := vwCl) (tys := tyl G) (ci := 7) (v := .ref (a 20)) (C := RX8) (T := TX8) (N := 8) hx hb hts (by decide +kernel) hown hC.K hP 0 rfl rfl 4 (by decide) (hts (.fieldLink RX8 40 "MotionPost" "text" "LMotionPost$CommandText;") (by decide +kernel)) (fun _ h9 => h9) rfl dX8_execute_1 ?_
  refine lv_iload_n hx hb dX8_execute_4 rfl (lv_at hl 1 rfl) ?_
  refine kPi (va_runVN (As := [.int (nI (i))]) (rest := []) ⟨hx, hb, hml, hown, hts⟩ (c_X1_signAt (a 20) (a 21) tn ln i (by first | assumption | omega) (by first | assumption | omega) (by first | assumption | omega) (hP.sub [20, 21] rfl)) ⟨va_cnB 1 hts gX8_execute_X1_signAt_n296 rfl rfl rfl (hC.nest 75 rfl) (hts (.initialized RX1) (by decide +kernel)) (by decide +kernel) ⟨Nat.le_of_ble_eq_true rfl, Nat.le_of_ble_eq_true rfl⟩, (hts (.instanceMethod yX1_signAt) (by decide +kernel)), (hts (.selects RX1 yX1_signAt yX1_signAt) (by decide +kernel))⟩ (preV hC hS hLo hP (ci := 1) (q0 := 20) rfl rfl) rfl rfl hl.1 rfl (lv_room (Nat.le_of_ble_eq_true rfl)) dX8_execute_5 ⟨Nat.zero_le _, Nat.zero_le _⟩) hS (fun locs hS => ?_)
  refine topE (v' := nI (120)) (congrArg nI hsg) ?_
  refine lv_istore_n (lv' := [(2, .int (nI (120))), (0, .ref (a 0)), (1, .int (nI (i)))]) hx hb dX8_execute_8 rfl hl (by decide) rfl (fun ls hl => ?_)
  refine lv_iload_n hx hb dX8_execute_9 rfl (lv_at hl 0 rfl) ?_
  refine lv_lookup (off := 92) (tgt := 102) hx hb dX8_execute_10 (by decide) (by decide) (by decide) ?_
  refine lv_aload_n hx hb dX8_execute_102 rfl (lv_at hl 1 rfl) ?_
  refine kPi (va_runV (As := []) (rest := []) ⟨hx, hb, hml, hown, hts⟩ (c_X8_maySend a v (by first | assumption | omega) (by first | assumption | omega) (hP.sub [0, 1, 2, 3, 4, 5, 6, 7, 8, 9] rfl)) (cwV 0 hts gX8_execute_X8_maySend rfl rfl rfl (by decide +kernel) ⟨Nat.le_of_ble_eq_true rfl, Nat.le_of_ble_eq_true rfl⟩) (preV hC hS hLo hP (ci := 7) (q0 := 0) rfl rfl) rfl rfl hl.1 rfl (lv_room (Nat.le_of_ble_eq_true rfl)) dX8_execute_103 ⟨Nat.zero_le _, Nat.zero_le _⟩) hS (fun locs hS => ?_)
  refine topE (v' := nI (1)) (bI_t hms) ?_
  refine lv_if_ne (tgt := 111) hx hb dX8_execute_106 (by decide) (fun c_1 => ?_) (fun c_1 => ?_)
  · have f_2 : ¬ (1 : Int) = (0 : Int) := fun z => c_1 ((c_eq (nI_toInt (n := 1) (by omega)) rfl).mpr z)
    refine lv_aload_n hx hb dX8_execute_111 rfl (lv_at hl 1 rfl) ?_
    refine lv_iload_n hx hb dX8_execute_112 rfl (lv_at hl 0 rfl) ?_
    refine lv_bipush (v := nI (120)) hx hb dX8_execute_113 (by decide) ?_
    refine lv_icmp_ne (tgt := 122) hx hb dX8_execute_115 (by decide) (fun c_3 => ?_) (fun c_3 => ?_)
    · have f_4 : ¬ (120 : Int) = (120 : Int) := fun z => c_3 ((c_eq (nI_toInt (n := 120) (by omega)) (nI_toInt (n := 120) (by omega))).mpr z)
      exfalso; omega
    · have f_5 : (120 : Int) = (120 : Int) := (c_eq (nI_toInt (n := 120) (by omega)) (nI_toInt (n := 120) (by omega))).mp c_3
      refine lv_iconst (v := nI (1)) hx hb dX8_execute_118 (by decide) ?_
      refine lv_goto (tgt := 123) hx hb dX8_execute_119 (by decide) ?_
      refine kWi (va_runV (As := [.int (nI (1))]) (rest := []) ⟨hx, hb, hml, hown, hts⟩ (c_X8_sendDrawn_n1 a v mo ki pr df co bi g9 lr bf tn ln (by first | assumption | omega) (by first | assumption | omega) (by first | assumption | omega) (by first | assumption | omega) (by first | assumption | omega) (by first | assumption | omega) (by first | assumption | omega) (by first | assumption | omega) (by first | assumption | omega) hP (hD.weaken (fun _ _ _ h => hLo _ h))) (cwV 1 hts gX8_execute_X8_sendDrawn rfl rfl rfl (by decide +kernel) ⟨Nat.le_of_ble_eq_true rfl, Nat.le_of_ble_eq_true rfl⟩) (preV hC hS hLo hP (ci := 7) (q0 := 0) rfl rfl) rfl rfl hl.1 rfl (lv_room (Nat.le_of_ble_eq_true rfl)) dX8_execute_123 ⟨Nat.zero_le _, Nat.zero_le _⟩) hP hD hS hA (fun _ => rfl) (fun r_8 u_6 H locs q_7 hP hD hS => ?_)
      have hP : PP G (y3W G a (v.1, nT v.1 v.2.1 v.2.2.2.2.2.1, v.2.2.1, knN v.1 v.2.1 v.2.2.2.2.2.1, BEST v.1 v.2.1, v.2.2.2.2.2.1, v.2.2.2.2.2.2.1, v.2.2.2.2.2.2.2.1 + 1, v.2.2.2.2.2.2.2.2.1 + 1, v.2.2.2.2.2.2.2.2.2 + ABM v.1 v.2.1 (COM v.1 v.2.1 v.2.2.2.2.2.1) 4) (BEST v.1 v.2.1) (knN v.1 v.2.1 v.2.2.2.2.2.1) (pN v.1 v.2.1) (dN v.1 v.2.1) (nI (COM v.1 v.2.1 v.2.2.2.2.2.1)) (ABM v.1 v.2.1 (COM v.1 v.2.1 v.2.2.2.2.2.1) 4) g9 lr bf tn ln) H := hP
      have hD : va_D A (y3W G a (v.1, nT v.1 v.2.1 v.2.2.2.2.2.1, v.2.2.1, knN v.1 v.2.1 v.2.2.2.2.2.1, BEST v.1 v.2.1, v.2.2.2.2.2.1, v.2.2.2.2.2.2.1, v.2.2.2.2.2.2.2.1 + 1, v.2.2.2.2.2.2.2.2.1 + 1, v.2.2.2.2.2.2.2.2.2 + ABM v.1 v.2.1 (COM v.1 v.2.1 v.2.2.2.2.2.1) 4) (BEST v.1 v.2.1) (knN v.1 v.2.1 v.2.2.2.2.2.1) (pN v.1 v.2.1) (dN v.1 v.2.1) (nI (COM v.1 v.2.1 v.2.2.2.2.2.1)) (ABM v.1 v.2.1 (COM v.1 v.2.1 v.2.2.2.2.2.1) 4) g9 lr bf tn ln) := hD
      refine topE (v' := nI (ABM v.1 v.2.1 (COM v.1 v.2.1 v.2.2.2.2.2.1) 4)) (q_7) ?_
      refine lv_pop hx hb dX8_execute_126 rfl ?_
      refine lv_iconst (v := nI (1)) hx hb dX8_execute_127 (by decide) ?_
      exact xMi (G := G) (post := (fun (r : Int32) (u : Unit) => r = nI (1))) (w1 := (fun (u : Unit) => y3W G a (v.1, nT v.1 v.2.1 v.2.2.2.2.2.1, v.2.2.1, knN v.1 v.2.1 v.2.2.2.2.2.1, BEST v.1 v.2.1, v.2.2.2.2.2.1, v.2.2.2.2.2.2.1, v.2.2.2.2.2.2.2.1 + 1, v.2.2.2.2.2.2.2.2.1 + 1, v.2.2.2.2.2.2.2.2.2 + ABM v.1 v.2.1 (COM v.1 v.2.1 v.2.2.2.2.2.1) 4) (BEST v.1 v.2.1) (knN v.1 v.2.1 v.2.2.2.2.2.1) (pN v.1 v.2.1) (dN v.1 v.2.1) (nI (COM v.1 v.2.1 v.2.2.2.2.2.1)) (ABM v.1 v.2.1 (COM v.1 v.2.1 v.2.2.2.2.2.1) 4) g9 lr bf tn ln)) (()) hx hb hr hlocks hP hS (by exact rfl) (by exact rfl) dX8_execute_128
  · have f_9 : (1 : Int) = (0 : Int) := (c_eq (nI_toInt (n := 1) (by omega)) rfl).mp c_1
    exfalso; omega

set_option maxHeartbeats 4000000 in
set_option maxRecDepth 100000 in
theorem c_X8_execute_sk1 {l : Launch} {G : GT} {H0 : Heap} (a : Nat → Nat) (v : SVT) (mo ki : Nat → Nat) (pr df : Nat → Int) (co : Int32) (bi : Nat) (g9 : Nat → Int32) (lr : Nat) (bf : Nat → Int) (tn : Nat → Nat) (ln : Nat) (i : Nat) (htn : T128 tn) (hln : ln ≤ 80) (hi9 : i ≤ 2147483647) (hms : v.2.2.2.2.2.2.2.1 < 999) (hkd : 1 ≤ v.2.2.2.2.2.2.1 ∧ v.2.2.2.2.2.2.1 ≤ 20) (hpi : v.2.2.2.2.2.2.2.1 ≤ 999) (hkey : v.2.2.2.2.2.2.2.1 % v.2.2.2.2.2.2.1 = 0) (hsg : sgn tn ln i = 120) (hP0 : PP G (y3W G a v mo ki pr df co bi g9 lr bf tn ln) H0) (hB0 : va_D (lo G) (y3W G a v mo ki pr df co bi g9 lr bf tn ln)) : Met l yX8_execute wsX8_execute ({ frames := 5, cells := 0, slots := 0, locals := 121 } : Room) (pcG G [.ref (a 0), .int (nI (i))] H0) (qMi G (fun (r : Int32) (u : Unit) => r = nI (1)) (fun (u : Unit) => y3W G a (v.1, v.1, v.2.2.1, fun _ => 0, mo, v.2.2.2.2.2.1, v.2.2.2.2.2.2.1, v.2.2.2.2.2.2.2.1 + 1, v.2.2.2.2.2.2.2.2.1 + 1, v.2.2.2.2.2.2.2.2.2 + 264) mo (fzK ki 4) pr df (iI (-1)) 264 g9 lr bf tn ln) (y3W G a v mo ki pr df co bi g9 lr bf tn ln) H0) 0 0 (va_A (y3W G a v mo ki pr df co bi g9 lr bf tn ln) H0.size) := by
  refine enter (cc := cX8_execute) (maxL := 3) (ret := some .boolean) (own := RX8) (lv := [(0, .ref (a 0)), (1, .int (nI (i)))]) (by decide) rfl rfl rfl (Nat.le_of_ble_eq_true rfl) ?_
  intro pg ev s m below meth c hx hb hr hts hown hlocks hml hnm hH hC ls hl
  subst hH
  have hLo := va_freeB hB0 hC.2.2.2.1
  have hD := hB0.self (sz := s.heap.size)
  have hS : va_S (va_A (y3W G a v mo ki pr df co bi g9 lr bf tn ln) s.heap.size) s.heap s.heap [] := va_S.rf
  unfold qMi
  generalize hAe : va_A (y3W G a v mo ki pr df co bi g9 lr bf tn ln) s.heap.size = A at hD hLo hS ⊢
  have hA : ∀ q, s.heap.size ≤ q → A q := fun q h => by rw [← hAe]; exact Or.inr h
  generalize ([] : List Loc) = locs at hS ⊢
  have hP := hP0
  refine lv_aload_n hx hb dX8_execute_0 rfl (lv_at hl 0 rfl) ?_
  refine va_get (D := gD G) (cl := vwCl) (tys := tyl G) (ci := 7) (v := .ref (a 20)) (C := RX8) (T := TX8) (N := 8) hx hb hts (by decide +kernel) hown hC.K hP 0 rfl rfl 4 (by decide) (hts (.fieldLink RX8 40 "MotionPost" "text" "LMotionPost$CommandText;") (by decide +kernel)) (fun _ h9 => h9) rfl dX8_execute_1 ?_
  refine lv_iload_n hx hb dX8_execute_4 rfl (lv_at hl 1 rfl) ?_
  refine kPi (va_runVN (As := [.int (nI (i))]) (rest := []) ⟨hx, hb, hml, hown, hts⟩ (c_X1_signAt (a 20) (a 21) tn ln i (by first | assumption | omega) (by first | assumption | omega) (by first | assumption | omega) (hP.sub [20, 21] rfl)) ⟨va_cnB 1 hts gX8_execute_X1_signAt_n296 rfl rfl rfl (hC.nest 75 rfl) (hts (.initialized RX1) (by decide +kernel)) (by decide +kernel) ⟨Nat.le_of_ble_eq_true rfl, Nat.le_of_ble_eq_true rfl⟩, (hts (.instanceMethod yX1_signAt) (by decide +kernel)), (hts (.selects RX1 yX1_signAt yX1_signAt) (by decide +kernel))⟩ (preV hC hS hLo hP (ci := 1) (q0 := 20) rfl rfl) rfl rfl hl.1 rfl (lv_room (Nat.le_of_ble_eq_true rfl)) dX8_execute_5 ⟨Nat.zero_le _, Nat.zero_le _⟩) hS (fun locs hS => ?_)
  refine topE (v' := nI (120)) (congrArg nI hsg) ?_
  refine lv_istore_n (lv' := [(2, .int (nI (120))), (0, .ref (a 0)), (1, .int (nI (i)))]) hx hb dX8_execute_8 rfl hl (by decide) rfl (fun ls hl => ?_)
  refine lv_iload_n hx hb dX8_execute_9 rfl (lv_at hl 0 rfl) ?_
  refine lv_lookup (off := 92) (tgt := 102) hx hb dX8_execute_10 (by decide) (by decide) (by decide) ?_
  refine lv_aload_n hx hb dX8_execute_102 rfl (lv_at hl 1 rfl) ?_
  refine kPi (va_runV (As := []) (rest := []) ⟨hx, hb, hml, hown, hts⟩ (c_X8_maySend a v (by first | assumption | omega) (by first | assumption | omega) (hP.sub [0, 1, 2, 3, 4, 5, 6, 7, 8, 9] rfl)) (cwV 0 hts gX8_execute_X8_maySend rfl rfl rfl (by decide +kernel) ⟨Nat.le_of_ble_eq_true rfl, Nat.le_of_ble_eq_true rfl⟩) (preV hC hS hLo hP (ci := 7) (q0 := 0) rfl rfl) rfl rfl hl.1 rfl (lv_room (Nat.le_of_ble_eq_true rfl)) dX8_execute_103 ⟨Nat.zero_le _, Nat.zero_le _⟩) hS (fun locs hS => ?_)
  refine topE (v' := nI (1)) (bI_t hms) ?_
  refine lv_if_ne (tgt := 111) hx hb dX8_execute_106 (by decide) (fun c_1 => ?_) (fun c_1 => ?_)
  · have f_2 : ¬ (1 : Int) = (0 : Int) := fun z => c_1 ((c_eq (nI_toInt (n := 1) (by omega)) rfl).mpr z)
    refine lv_aload_n hx hb dX8_execute_111 rfl (lv_at hl 1 rfl) ?_
    refine lv_iload_n hx hb dX8_execute_112 rfl (lv_at hl 0 rfl) ?_
    refine lv_bipush (v := nI (120)) hx hb dX8_execute_113 (by decide) ?_
    refine lv_icmp_ne (tgt := 122) hx hb dX8_execute_115 (by decide) (fun c_3 => ?_) (fun c_3 => ?_)
    · have f_4 : ¬ (120 : Int) = (120 : Int) := fun z => c_3 ((c_eq (nI_toInt (n := 120) (by omega)) (nI_toInt (n := 120) (by omega))).mpr z)
      exfalso; omega
    · have f_5 : (120 : Int) = (120 : Int) := (c_eq (nI_toInt (n := 120) (by omega)) (nI_toInt (n := 120) (by omega))).mp c_3
      refine lv_iconst (v := nI (1)) hx hb dX8_execute_118 (by decide) ?_
      refine lv_goto (tgt := 123) hx hb dX8_execute_119 (by decide) ?_
      refine kWi (va_runV (As := [.int (nI (1))]) (rest := []) ⟨hx, hb, hml, hown, hts⟩ (c_X8_sendDrawn_k1 a v mo ki pr df co bi g9 lr bf tn ln (by first | assumption | omega) (by first | assumption | omega) (by first | assumption | omega) hP (hD.weaken (fun _ _ _ h => hLo _ h))) (cwV 1 hts gX8_execute_X8_sendDrawn rfl rfl rfl (by decide +kernel) ⟨Nat.le_of_ble_eq_true rfl, Nat.le_of_ble_eq_true rfl⟩) (preV hC hS hLo hP (ci := 7) (q0 := 0) rfl rfl) rfl rfl hl.1 rfl (lv_room (Nat.le_of_ble_eq_true rfl)) dX8_execute_123 ⟨Nat.zero_le _, Nat.zero_le _⟩) hP hD hS hA (fun _ => rfl) (fun r_8 u_6 H locs q_7 hP hD hS => ?_)
      have hP : PP G (y3W G a (v.1, v.1, v.2.2.1, fun _ => 0, mo, v.2.2.2.2.2.1, v.2.2.2.2.2.2.1, v.2.2.2.2.2.2.2.1 + 1, v.2.2.2.2.2.2.2.2.1 + 1, v.2.2.2.2.2.2.2.2.2 + 264) mo (fzK ki 4) pr df (iI (-1)) 264 g9 lr bf tn ln) H := hP
      have hD : va_D A (y3W G a (v.1, v.1, v.2.2.1, fun _ => 0, mo, v.2.2.2.2.2.1, v.2.2.2.2.2.2.1, v.2.2.2.2.2.2.2.1 + 1, v.2.2.2.2.2.2.2.2.1 + 1, v.2.2.2.2.2.2.2.2.2 + 264) mo (fzK ki 4) pr df (iI (-1)) 264 g9 lr bf tn ln) := hD
      refine topE (v' := nI (264)) (q_7) ?_
      refine lv_pop hx hb dX8_execute_126 rfl ?_
      refine lv_iconst (v := nI (1)) hx hb dX8_execute_127 (by decide) ?_
      exact xMi (G := G) (post := (fun (r : Int32) (u : Unit) => r = nI (1))) (w1 := (fun (u : Unit) => y3W G a (v.1, v.1, v.2.2.1, fun _ => 0, mo, v.2.2.2.2.2.1, v.2.2.2.2.2.2.1, v.2.2.2.2.2.2.2.1 + 1, v.2.2.2.2.2.2.2.2.1 + 1, v.2.2.2.2.2.2.2.2.2 + 264) mo (fzK ki 4) pr df (iI (-1)) 264 g9 lr bf tn ln)) (()) hx hb hr hlocks hP hS (by exact rfl) (by exact rfl) dX8_execute_128
  · have f_9 : (1 : Int) = (0 : Int) := (c_eq (nI_toInt (n := 1) (by omega)) rfl).mp c_1
    exfalso; omega
