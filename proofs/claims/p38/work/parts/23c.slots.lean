set_option maxHeartbeats 4000000 in
set_option maxRecDepth 100000 in
theorem c_X8_undo {l : Launch} {G : GT} {H0 : Heap} (a : Nat → Nat) (v : SVT) (mo ki : Nat → Nat) (pr df : Nat → Int) (co : Int32) (bi : Nat) (g9 : Nat → Int32) (lr : Nat) (bf : Nat → Int) (tn : Nat → Nat) (ln nx ct : Nat) (hv : Nat → SVT) (v0 : SVT) (k0 : Nat) (v1 : SVT) (k1 : Nat) (hnx : nx < 6) (hct : 1 ≤ ct ∧ ct ≤ 6) (hP0 : PP G (xW G a v mo ki pr df co bi g9 lr bf tn ln nx ct hv v0 k0 v1 k1) H0) (hB0 : va_D (lo G) (xW G a v mo ki pr df co bi g9 lr bf tn ln nx ct hv v0 k0 v1 k1)) : Met l yX8_undo wsX8_undo ({ frames := 4, cells := 0, slots := 0, locals := 88 } : Room) (pcG G [.ref (a 0)] H0) (qMi G (fun (r : Int32) (u : Unit) => r = nI (ct - 1)) (fun (u : Unit) => xW G a (hv ((nx + 6 - 1) % 6)) mo ki pr df co bi g9 lr bf tn ln ((nx + 6 - 1) % 6) (ct - 1) hv v0 k0 v1 k1) (xW G a v mo ki pr df co bi g9 lr bf tn ln nx ct hv v0 k0 v1 k1) H0) 0 0 (va_A (xW G a v mo ki pr df co bi g9 lr bf tn ln nx ct hv v0 k0 v1 k1) H0.size) := by
  refine enter (cc := cX8_undo) (maxL := 1) (ret := some .int) (own := RX8) (lv := [(0, .ref (a 0))]) (by decide) rfl rfl rfl (Nat.le_of_ble_eq_true rfl) ?_
  intro pg ev s m below meth c hx hb hr hts hown hlocks hml hnm hH hC ls hl
  subst hH
  have hLo := va_freeB hB0 hC.2.2.2.1
  have hD := hB0.self (sz := s.heap.size)
  have hS : va_S (va_A (xW G a v mo ki pr df co bi g9 lr bf tn ln nx ct hv v0 k0 v1 k1) s.heap.size) s.heap s.heap [] := va_S.rf
  unfold qMi
  generalize hAe : va_A (xW G a v mo ki pr df co bi g9 lr bf tn ln nx ct hv v0 k0 v1 k1) s.heap.size = A at hD hLo hS ⊢
  have hA : ∀ q, s.heap.size ≤ q → A q := fun q h => by rw [← hAe]; exact Or.inr h
  generalize ([] : List Loc) = locs at hS ⊢
  have hP := hP0
  refine lv_aload_n hx hb dX8_undo_0 rfl (lv_at hl 0 rfl) ?_
  refine va_get (D := gD G) (cl := vwCl) (tys := tyl G) (ci := 7) (v := .ref (a 22)) (C := RX8) (T := TX8) (N := 8) hx hb hts (by decide +kernel) hown hC.K hP 0 rfl rfl 5 (by decide) (hts (.fieldLink RX8 47 "MotionPost" "history" "LMotionPost$History;") (by decide +kernel)) (fun _ h9 => h9) rfl dX8_undo_1 ?_
  refine va_getN (D := gD G) (cl := vwCl) (tys := tyl G) (ci := 2) (v := .int (nI (ct))) (C := RX2) (T := TX2) (N := 3) (host := "MotionPost") (ref := "MotionPost$History") hx hb hts (by decide +kernel) hown hC.K (xW_his hP) 1 rfl rfl 2 (by decide) (hC.nestW 28 rfl rfl) (fun _ h9 => h9) rfl dX8_undo_4 ?_
  refine lv_if_ne (tgt := 20) hx hb dX8_undo_7 (by decide) (fun c_1 => ?_) (fun c_1 => ?_)
  · have f_2 : ¬ ((ct : Nat) : Int) = (0 : Int) := fun z => c_1 ((c_eq (nI_toInt (n := ct) (by omega)) rfl).mpr z)
    refine lv_aload_n hx hb dX8_undo_20 rfl (lv_at hl 0 rfl) ?_
    refine va_get (D := gD G) (cl := vwCl) (tys := tyl G) (ci := 7) (v := .ref (a 22)) (C := RX8) (T := TX8) (N := 8) hx hb hts (by decide +kernel) hown hC.K hP 0 rfl rfl 5 (by decide) (hts (.fieldLink RX8 47 "MotionPost" "history" "LMotionPost$History;") (by decide +kernel)) (fun _ h9 => h9) rfl dX8_undo_21 ?_
    refine lv_aload_n hx hb dX8_undo_24 rfl (lv_at hl 0 rfl) ?_
    refine va_get (D := gD G) (cl := vwCl) (tys := tyl G) (ci := 7) (v := .ref (a 1)) (C := RX8) (T := TX8) (N := 8) hx hb hts (by decide +kernel) hown hC.K hP 0 rfl rfl 0 (by decide) (hts (.fieldLink RX8 12 "MotionPost" "now" "LMotionPost$State;") (by decide +kernel)) (fun _ h9 => h9) rfl dX8_undo_25 ?_
    have hP : PP G ((xoW a) ++ (stW G (a 1) (a 2) (a 3) (a 4) (a 5) (a 6) (a 7) (a 8) (a 9) v ++ ((mdW G a mo ki pr df co bi g9 lr bf tn ln) ++ (hsW G a nx ct hv ++ (rrW G a v0 k0 v1 k1))))) s.heap := hP
    have hD : va_D A ((xoW a) ++ (stW G (a 1) (a 2) (a 3) (a 4) (a 5) (a 6) (a 7) (a 8) (a 9) v ++ ((mdW G a mo ki pr df co bi g9 lr bf tn ln) ++ (hsW G a nx ct hv ++ (rrW G a v0 k0 v1 k1))))) := hD
    have hPc := f2_P hP
    have hDc := (f2_D hD).weaken (fun _ _ _ h => hLo _ h)
    refine kF2 (P1 := xoW a) (P2 := mdW G a mo ki pr df co bi g9 lr bf tn ln) (P3 := rrW G a v0 k0 v1 k1) (va_runVN (As := [.ref (a 1)]) (rest := []) ⟨hx, hb, hml, hown, hts⟩ (c_X2_takeBack a v nx ct hv hnx hct hPc hDc) ⟨va_cnB 1 hts gX8_undo_X2_takeBack_n226 rfl rfl rfl (hC.nest 78 rfl) (hts (.initialized RX2) (by decide +kernel)) (by decide +kernel) ⟨Nat.le_of_ble_eq_true rfl, Nat.le_of_ble_eq_true rfl⟩, (hts (.instanceMethod yX2_takeBack) (by decide +kernel)), (hts (.selects RX2 yX2_takeBack yX2_takeBack) (by decide +kernel))⟩ (preV hC hS hLo hPc (ci := 2) (q0 := 9) rfl rfl) rfl rfl hl.1 rfl (lv_room (Nat.le_of_ble_eq_true rfl)) dX8_undo_28 ⟨Nat.zero_le _, Nat.zero_le _⟩) hP hD hS hA rfl rfl (fun H locs hP hD hS => ?_)
    have hP : PP G (xW G a (hv ((nx + 6 - 1) % 6)) mo ki pr df co bi g9 lr bf tn ln ((nx + 6 - 1) % 6) (ct - 1) hv v0 k0 v1 k1) H := hP
    have hD : va_D A (xW G a (hv ((nx + 6 - 1) % 6)) mo ki pr df co bi g9 lr bf tn ln ((nx + 6 - 1) % 6) (ct - 1) hv v0 k0 v1 k1) := hD
    refine lv_aload_n hx hb dX8_undo_31 rfl (lv_at hl 0 rfl) ?_
    refine va_get (D := gD G) (cl := vwCl) (tys := tyl G) (ci := 7) (v := .ref (a 22)) (C := RX8) (T := TX8) (N := 8) hx hb hts (by decide +kernel) hown hC.K hP 0 rfl rfl 5 (by decide) (hts (.fieldLink RX8 47 "MotionPost" "history" "LMotionPost$History;") (by decide +kernel)) (fun _ h9 => h9) rfl dX8_undo_32 ?_
    refine va_getN (D := gD G) (cl := vwCl) (tys := tyl G) (ci := 2) (v := .int (nI (ct - 1))) (C := RX2) (T := TX2) (N := 3) (host := "MotionPost") (ref := "MotionPost$History") hx hb hts (by decide +kernel) hown hC.K (xW_his hP) 1 rfl rfl 2 (by decide) (hC.nestW 28 rfl rfl) (fun _ h9 => h9) rfl dX8_undo_35 ?_
    exact xMi (G := G) (post := (fun (r : Int32) (u : Unit) => r = nI (ct - 1))) (w1 := (fun (u : Unit) => xW G a (hv ((nx + 6 - 1) % 6)) mo ki pr df co bi g9 lr bf tn ln ((nx + 6 - 1) % 6) (ct - 1) hv v0 k0 v1 k1)) (()) hx hb hr hlocks hP hS (by exact rfl) (by exact rfl) dX8_undo_38
  · have f_3 : ((ct : Nat) : Int) = (0 : Int) := (c_eq (nI_toInt (n := ct) (by omega)) rfl).mp c_1
    exfalso; omega
