theorem CS_ok {u : Nat} : CS u ≤ 8 := CS_le u

set_option maxHeartbeats 4000000 in
set_option maxRecDepth 100000 in
theorem c_X8_bitsByWriting {l : Launch} {G : GT} {H0 : Heap} (a : Nat → Nat) (v : SVT) (mo ki : Nat → Nat) (pr df : Nat → Int) (co : Int32) (bi : Nat) (g9 : Nat → Int32) (lr : Nat) (bf : Nat → Int) (tn : Nat → Nat) (ln : Nat) (b q : Nat) (hd : R15 v.1) (ht : R15 v.2.1) (hdf : D15 df) (hmo : M25 mo) (hb4 : b < 4) (hq : 1 ≤ q ∧ q ≤ 8) (hP0 : PP G (y3W G a v mo ki pr df co bi g9 lr bf tn ln) H0) (hB0 : va_D (lo G) (y3W G a v mo ki pr df co bi g9 lr bf tn ln)) : Met l yX8_bitsByWriting wsX8_bitsByWriting ({ frames := 4, cells := 0, slots := 0, locals := 95 } : Room) (pcG G [.ref (a 0), .int (nI (b)), .int (nI (q))] H0) (qMi G (fun (r : Int32) (u : (Nat → Int32) × Nat) => r = nI (BTM v.1 v.2.1 b q)) (fun (u : (Nat → Int32) × Nat) => y3W G a v (va_up mo b (BEST v.1 v.2.1 b)) ki (fpS v.2.1 b (BEST v.1 v.2.1 b) pr 16) (fdS v.1 v.2.1 b (BEST v.1 v.2.1 b) df 16) co bi u.1 u.2 bf tn ln) (y3W G a v mo ki pr df co bi g9 lr bf tn ln) H0) 0 0 (va_A (y3W G a v mo ki pr df co bi g9 lr bf tn ln) H0.size) := by
  refine enter (cc := cX8_bitsByWriting) (maxL := 3) (ret := some .int) (own := RX8) (lv := [(0, .ref (a 0)), (1, .int (nI (b))), (2, .int (nI (q)))]) (by decide) rfl rfl rfl (Nat.le_of_ble_eq_true rfl) ?_
  intro pg ev s m below meth c hx hb hr hts hown hlocks hml hnm hH hC ls hl
  subst hH
  have hLo := va_freeB hB0 hC.2.2.2.1
  have hD := hB0.self (sz := s.heap.size)
  have hS : va_S (va_A (y3W G a v mo ki pr df co bi g9 lr bf tn ln) s.heap.size) s.heap s.heap [] := va_S.rf
  unfold qMi
  generalize hAe : va_A (y3W G a v mo ki pr df co bi g9 lr bf tn ln) s.heap.size = A at hD hLo hS ⊢
  have hA : ∀ q, s.heap.size ≤ q → A q := fun q h => by rw [← hAe]; exact Or.inr h
  generalize ([] : List Loc) = locs at hS ⊢
  have hP := hP0
  refine lv_iload_n hx hb dX8_bitsByWriting_0 rfl (lv_at hl 1 rfl) ?_
  refine kPv (va_runS (As := [.int (nI (b))]) (rest := []) ⟨hx, hb, hml, hown, hts⟩ (c_X8_requireBlock b (by first | assumption | omega)) (va_cwS 1 hts gX8_bitsByWriting_X8_requireBlock rfl rfl rfl (by decide +kernel) ⟨Nat.le_of_ble_eq_true rfl, Nat.le_of_ble_eq_true rfl⟩) (preS hC hS hLo) rfl rfl hl.1 rfl (lv_room (Nat.le_of_ble_eq_true rfl)) dX8_bitsByWriting_1 ⟨Nat.zero_le _, Nat.zero_le _⟩) hS (fun locs hS => ?_)
  refine lv_iload_n hx hb dX8_bitsByWriting_4 rfl (lv_at hl 2 rfl) ?_
  refine lv_iconst (v := nI (1)) hx hb dX8_bitsByWriting_5 (by decide) ?_
  refine lv_bipush (v := nI (8)) hx hb dX8_bitsByWriting_6 (by decide) ?_
  refine kPv (va_runS (As := [.int (nI (q)), .int (nI (1)), .int (nI (8))]) (rest := []) ⟨hx, hb, hml, hown, hts⟩ (c_X8_requireWithin (nI (q)) (nI (1)) (nI (8)) (by show (1 : Int) ≤ _; rw [nI_toInt (by omega)]; omega) (by show _ ≤ (8 : Int); rw [nI_toInt (by omega)]; omega)) (va_cwS 3 hts gX8_bitsByWriting_X8_requireWithin rfl rfl rfl (by decide +kernel) ⟨Nat.le_of_ble_eq_true rfl, Nat.le_of_ble_eq_true rfl⟩) (preS hC hS hLo) rfl rfl hl.1 rfl (lv_room (Nat.le_of_ble_eq_true rfl)) dX8_bitsByWriting_8 ⟨Nat.zero_le _, Nat.zero_le _⟩) hS (fun locs hS => ?_)
  refine lv_aload_n hx hb dX8_bitsByWriting_11 rfl (lv_at hl 0 rfl) ?_
  refine va_get (D := gD G) (cl := vwCl) (tys := tyl G) (ci := 7) (v := .ref (a 10)) (C := RX8) (T := TX8) (N := 8) hx hb hts (by decide +kernel) hown hC.K hP 0 rfl rfl 1 (by decide) (hts (.fieldLink RX8 19 "MotionPost" "plan" "LMotionPost$Plan;") (by decide +kernel)) (fun _ h9 => h9) rfl dX8_bitsByWriting_12 ?_
  refine lv_aload_n hx hb dX8_bitsByWriting_15 rfl (lv_at hl 0 rfl) ?_
  refine va_get (D := gD G) (cl := vwCl) (tys := tyl G) (ci := 7) (v := .ref (a 1)) (C := RX8) (T := TX8) (N := 8) hx hb hts (by decide +kernel) hown hC.K hP 0 rfl rfl 0 (by decide) (hts (.fieldLink RX8 12 "MotionPost" "now" "LMotionPost$State;") (by decide +kernel)) (fun _ h9 => h9) rfl dX8_bitsByWriting_16 ?_
  refine lv_iload_n hx hb dX8_bitsByWriting_19 rfl (lv_at hl 1 rfl) ?_
  refine lv_aload_n hx hb dX8_bitsByWriting_20 rfl (lv_at hl 0 rfl) ?_
  refine va_get (D := gD G) (cl := vwCl) (tys := tyl G) (ci := 7) (v := .ref (a 1)) (C := RX8) (T := TX8) (N := 8) hx hb hts (by decide +kernel) hown hC.K hP 0 rfl rfl 0 (by decide) (hts (.fieldLink RX8 12 "MotionPost" "now" "LMotionPost$State;") (by decide +kernel)) (fun _ h9 => h9) rfl dX8_bitsByWriting_21 ?_
  refine lv_iload_n hx hb dX8_bitsByWriting_24 rfl (lv_at hl 1 rfl) ?_
  have hbl := BEST_lt v.1 v.2.1 b
  refine kPi (va_runSN (As := [.ref (a 1), .int (nI (b))]) (rest := [.int (nI (b)), .ref (a 1), .ref (a 10)]) ⟨hx, hb, hml, hown, hts⟩ (c_X3_bestByStopping (a 1) (a 2) (a 3) (a 4) (a 5) (a 6) (a 7) (a 8) (a 9) v.1 v.2.1 v.2.2.1 v.2.2.2.1 v.2.2.2.2.1 v.2.2.2.2.2.1 v.2.2.2.2.2.2.1 v.2.2.2.2.2.2.2.1 v.2.2.2.2.2.2.2.2.1 v.2.2.2.2.2.2.2.2.2 b (by first | assumption | omega) (by first | assumption | omega) (by first | assumption | omega) (hP.sub [1, 2, 3, 4, 5, 6, 7, 8, 9] rfl)) ⟨va_cnB 2 hts gX8_bitsByWriting_X3_bestByStopping_n142 rfl rfl rfl (hC.nest 63 rfl) (hts (.initialized RX3) (by decide +kernel)) (by decide +kernel) ⟨Nat.le_of_ble_eq_true rfl, Nat.le_of_ble_eq_true rfl⟩, (hts (.static yX3_bestByStopping) (by decide +kernel)), trivial⟩ (preS hC hS hLo) rfl rfl hl.1 rfl (lv_room (Nat.le_of_ble_eq_true rfl)) dX8_bitsByWriting_25 ⟨Nat.zero_le _, Nat.zero_le _⟩) hS (fun locs hS => ?_)
  refine topE (v' := nI (BEST v.1 v.2.1 b)) (congrArg nI (bsS_BEST hd ht b)) ?_
  refine kMv (va_runVN (As := [.ref (a 1), .int (nI (b)), .int (nI (BEST v.1 v.2.1 b))]) (rest := []) ⟨hx, hb, hml, hown, hts⟩ (c_X5_foreseeBlock (a 10) (a 11) (a 12) (a 13) (a 14) (a 15) mo ki pr df co bi (a 1) (a 2) (a 3) (a 4) (a 5) (a 6) (a 7) (a 8) (a 9) v.1 v.2.1 v.2.2.1 v.2.2.2.1 v.2.2.2.2.1 v.2.2.2.2.2.1 v.2.2.2.2.2.2.1 v.2.2.2.2.2.2.2.1 v.2.2.2.2.2.2.2.2.1 v.2.2.2.2.2.2.2.2.2 b (BEST v.1 v.2.1 b) (by first | assumption | omega) (by first | assumption | omega) (hP.sub [10, 11, 12, 13, 14, 15, 1, 2, 3, 4, 5, 6, 7, 8, 9] rfl) ((hD.sub [10, 11, 12, 13, 14, 15, 1, 2, 3, 4, 5, 6, 7, 8, 9] (by decide) rfl).weaken (fun _ _ _ h => hLo _ h))) ⟨va_cnB 3 hts gX8_bitsByWriting_X5_foreseeBlock_n151 rfl rfl rfl (hC.nest 65 rfl) (hts (.initialized RX5) (by decide +kernel)) (by decide +kernel) ⟨Nat.le_of_ble_eq_true rfl, Nat.le_of_ble_eq_true rfl⟩, (hts (.instanceMethod yX5_foreseeBlock) (by decide +kernel)), (hts (.selects RX5 yX5_foreseeBlock yX5_foreseeBlock) (by decide +kernel))⟩ (preV hC hS hLo hP (ci := 4) (q0 := 10) rfl rfl) rfl rfl hl.1 rfl (lv_room (Nat.le_of_ble_eq_true rfl)) dX8_bitsByWriting_28 ⟨Nat.zero_le _, Nat.zero_le _⟩) hP hD hS hA [10, 11, 12, 13, 14, 15, 1, 2, 3, 4, 5, 6, 7, 8, 9] (by decide) rfl (fun _ => rfl) (fun u_1 H locs q_2 hP hD hS => ?_)
  have hP : PP G (y3W G a v (va_up mo b (BEST v.1 v.2.1 b)) ki (fpS v.2.1 b (BEST v.1 v.2.1 b) pr 16) (fdS v.1 v.2.1 b (BEST v.1 v.2.1 b) df 16) co bi g9 lr bf tn ln) H := hP
  have hD : va_D A (y3W G a v (va_up mo b (BEST v.1 v.2.1 b)) ki (fpS v.2.1 b (BEST v.1 v.2.1 b) pr 16) (fdS v.1 v.2.1 b (BEST v.1 v.2.1 b) df 16) co bi g9 lr bf tn ln) := hD
  refine lv_aload_n hx hb dX8_bitsByWriting_31 rfl (lv_at hl 0 rfl) ?_
  refine va_get (D := gD G) (cl := vwCl) (tys := tyl G) (ci := 7) (v := .ref (a 16)) (C := RX8) (T := TX8) (N := 8) hx hb hts (by decide +kernel) hown hC.K hP 0 rfl rfl 2 (by decide) (hts (.fieldLink RX8 26 "MotionPost" "bitRow" "LMotionPost$BitRow;") (by decide +kernel)) (fun _ h9 => h9) rfl dX8_bitsByWriting_32 ?_
  refine lv_aload_n hx hb dX8_bitsByWriting_35 rfl (lv_at hl 0 rfl) ?_
  refine va_get (D := gD G) (cl := vwCl) (tys := tyl G) (ci := 7) (v := .ref (a 10)) (C := RX8) (T := TX8) (N := 8) hx hb hts (by decide +kernel) hown hC.K hP 0 rfl rfl 1 (by decide) (hts (.fieldLink RX8 19 "MotionPost" "plan" "LMotionPost$Plan;") (by decide +kernel)) (fun _ h9 => h9) rfl dX8_bitsByWriting_36 ?_
  refine lv_aload_n hx hb dX8_bitsByWriting_39 rfl (lv_at hl 0 rfl) ?_
  refine va_get (D := gD G) (cl := vwCl) (tys := tyl G) (ci := 7) (v := .ref (a 1)) (C := RX8) (T := TX8) (N := 8) hx hb hts (by decide +kernel) hown hC.K hP 0 rfl rfl 0 (by decide) (hts (.fieldLink RX8 12 "MotionPost" "now" "LMotionPost$State;") (by decide +kernel)) (fun _ h9 => h9) rfl dX8_bitsByWriting_40 ?_
  refine va_getN (D := gD G) (cl := vwCl) (tys := tyl G) (ci := 6) (v := .ref (a 2)) (C := RX7) (T := TX7) (N := 10) (host := "MotionPost") (ref := "MotionPost$State") hx hb hts (by decide +kernel) hown hC.K hP 1 rfl rfl 0 (by decide) (hC.nestW 2 rfl rfl) (fun _ h9 => h9) rfl dX8_bitsByWriting_43 ?_
  refine lv_iload_n hx hb dX8_bitsByWriting_46 rfl (lv_at hl 1 rfl) ?_
  refine lv_iload_n hx hb dX8_bitsByWriting_47 rfl (lv_at hl 2 rfl) ?_
  refine kMi (va_runVN (As := [.ref (a 10), .ref (a 2), .int (nI (b)), .int (nI (q))]) (rest := []) ⟨hx, hb, hml, hown, hts⟩ (c_X0_writeBlock (a 16) (a 17) g9 lr (a 10) (a 11) (a 12) (a 13) (a 14) (a 15) (va_up mo b (BEST v.1 v.2.1 b)) ki (fpS v.2.1 b (BEST v.1 v.2.1 b) pr 16) (fdS v.1 v.2.1 b (BEST v.1 v.2.1 b) df 16) co bi (a 2) (a 3) v.1 b q (by first | assumption | omega) (by first | assumption | omega) (fdS_D hd ht hdf 16) (M25_up hmo b hbl) (hP.sub [16, 17, 10, 11, 12, 13, 14, 15, 2, 3] rfl) ((hD.sub [16, 17, 10, 11, 12, 13, 14, 15, 2, 3] (by decide) rfl).weaken (fun _ _ _ h => hLo _ h))) ⟨va_cnB 4 hts gX8_bitsByWriting_X0_writeBlock_n161 rfl rfl rfl (hC.nest 67 rfl) (hts (.initialized RX0) (by decide +kernel)) (by decide +kernel) ⟨Nat.le_of_ble_eq_true rfl, Nat.le_of_ble_eq_true rfl⟩, (hts (.instanceMethod yX0_writeBlock) (by decide +kernel)), (hts (.selects RX0 yX0_writeBlock yX0_writeBlock) (by decide +kernel))⟩ (preV hC hS hLo hP (ci := 0) (q0 := 16) rfl rfl) rfl rfl hl.1 rfl (lv_room (Nat.le_of_ble_eq_true rfl)) dX8_bitsByWriting_48 ⟨Nat.zero_le _, Nat.zero_le _⟩) hP hD hS hA [16, 17, 10, 11, 12, 13, 14, 15, 2, 3] (by decide) rfl (fun _ => rfl) (fun r_6 u_4 H locs q_5 hP hD hS => ?_)
  have hP : PP G (y3W G a v (va_up mo b (BEST v.1 v.2.1 b)) ki (fpS v.2.1 b (BEST v.1 v.2.1 b) pr 16) (fdS v.1 v.2.1 b (BEST v.1 v.2.1 b) df 16) co bi u_4.1 u_4.2 bf tn ln) H := hP
  have hD : va_D A (y3W G a v (va_up mo b (BEST v.1 v.2.1 b)) ki (fpS v.2.1 b (BEST v.1 v.2.1 b) pr 16) (fdS v.1 v.2.1 b (BEST v.1 v.2.1 b) df 16) co bi u_4.1 u_4.2 bf tn ln) := hD
  exact xMi (G := G) (post := (fun (r : Int32) (u : (Nat → Int32) × Nat) => r = nI (BTM v.1 v.2.1 b q))) (w1 := (fun (u : (Nat → Int32) × Nat) => y3W G a v (va_up mo b (BEST v.1 v.2.1 b)) ki (fpS v.2.1 b (BEST v.1 v.2.1 b) pr 16) (fdS v.1 v.2.1 b (BEST v.1 v.2.1 b) df 16) co bi u.1 u.2 bf tn ln)) (u_4) hx hb hr hlocks hP hS (by exact (q_5.trans (congrArg nI (kw_B hb4)))) (by exact rfl) dX8_bitsByWriting_51

set_option maxHeartbeats 4000000 in
set_option maxRecDepth 100000 in
theorem c_X8_clearText_y {l : Launch} {G : GT} {H0 : Heap} (a : Nat → Nat) (v : SVT) (mo ki : Nat → Nat) (pr df : Nat → Int) (co : Int32) (bi : Nat) (g9 : Nat → Int32) (lr : Nat) (bf : Nat → Int) (tn : Nat → Nat) (ln : Nat)  (hP0 : PP G (y3W G a v mo ki pr df co bi g9 lr bf tn ln) H0) (hB0 : va_D (lo G) (y3W G a v mo ki pr df co bi g9 lr bf tn ln)) : Met l yX8_clearText wsX8_clearText ({ frames := 0, cells := 0, slots := 0, locals := 0 } : Room) (pcG G [.ref (a 0)] H0) (qMi G (fun (r : Int32) (u : Unit) => r = nI (ln)) (fun (u : Unit) => y3W G a v mo ki pr df co bi g9 lr bf tn 0) (y3W G a v mo ki pr df co bi g9 lr bf tn ln) H0) 0 0 (va_A (y3W G a v mo ki pr df co bi g9 lr bf tn ln) H0.size) := by
  refine enter (cc := cX8_clearText) (maxL := 2) (ret := some .int) (own := RX8) (lv := [(0, .ref (a 0))]) (by decide) rfl rfl rfl (Nat.le_of_ble_eq_true rfl) ?_
  intro pg ev s m below meth c hx hb hr hts hown hlocks hml hnm hH hC ls hl
  subst hH
  have hLo := va_freeB hB0 hC.2.2.2.1
  have hD := hB0.self (sz := s.heap.size)
  have hS : va_S (va_A (y3W G a v mo ki pr df co bi g9 lr bf tn ln) s.heap.size) s.heap s.heap [] := va_S.rf
  unfold qMi
  generalize hAe : va_A (y3W G a v mo ki pr df co bi g9 lr bf tn ln) s.heap.size = A at hD hLo hS ⊢
  have hA : ∀ q, s.heap.size ≤ q → A q := fun q h => by rw [← hAe]; exact Or.inr h
  generalize ([] : List Loc) = locs at hS ⊢
  have hP := hP0
  refine lv_aload_n hx hb dX8_clearText_0 rfl (lv_at hl 0 rfl) ?_
  refine va_get (D := gD G) (cl := vwCl) (tys := tyl G) (ci := 7) (v := .ref (a 20)) (C := RX8) (T := TX8) (N := 8) hx hb hts (by decide +kernel) hown hC.K hP 0 rfl rfl 4 (by decide) (hts (.fieldLink RX8 40 "MotionPost" "text" "LMotionPost$CommandText;") (by decide +kernel)) (fun _ h9 => h9) rfl dX8_clearText_1 ?_
  refine va_getN (D := gD G) (cl := vwCl) (tys := tyl G) (ci := 1) (v := .int (nI (ln))) (C := RX1) (T := TX1) (N := 2) (host := "MotionPost") (ref := "MotionPost$CommandText") hx hb hts (by decide +kernel) hown hC.K hP 20 rfl rfl 1 (by decide) (hC.nestW 25 rfl rfl) (fun _ h9 => h9) rfl dX8_clearText_4 ?_
  refine lv_istore_n (lv' := [(1, .int (nI (ln))), (0, .ref (a 0))]) hx hb dX8_clearText_7 rfl hl (by decide) rfl (fun ls hl => ?_)
  refine lv_aload_n hx hb dX8_clearText_8 rfl (lv_at hl 1 rfl) ?_
  refine va_get (D := gD G) (cl := vwCl) (tys := tyl G) (ci := 7) (v := .ref (a 20)) (C := RX8) (T := TX8) (N := 8) hx hb hts (by decide +kernel) hown hC.K hP 0 rfl rfl 4 (by decide) (hts (.fieldLink RX8 40 "MotionPost" "text" "LMotionPost$CommandText;") (by decide +kernel)) (fun _ h9 => h9) rfl dX8_clearText_9 ?_
  refine lv_iconst (v := nI (0)) hx hb dX8_clearText_12 (by decide) ?_
  refine va_putN (D := gD G) (cl := vwCl) (tys := tyl G) (ci := 1) (v := .int (nI (0))) (ty := .int) (C := RX1) (T := TX1) (N := 2) (host := "MotionPost") (ref := "MotionPost$CommandText") hx hb hts (by decide +kernel) tyX1 tyX1_ok nmX1 hown hC.K hP hD hS 20 rfl rfl 1 (by decide) (hC.nestW 25 rfl rfl) (fun _ h9 => h9) rfl (by decide +kernel) (rfl) rfl (Nat.le_of_ble_eq_true rfl) dX8_clearText_13 (fun H locs hP hD hS => ?_)
  have hP : PP G (y3W G a v mo ki pr df co bi g9 lr bf tn 0) H := hP
  have hD : va_D A (y3W G a v mo ki pr df co bi g9 lr bf tn 0) := hD
  refine lv_iload_n hx hb dX8_clearText_16 rfl (lv_at hl 0 rfl) ?_
  exact xMi (G := G) (post := (fun (r : Int32) (u : Unit) => r = nI (ln))) (w1 := (fun (u : Unit) => y3W G a v mo ki pr df co bi g9 lr bf tn 0)) (()) hx hb hr hlocks hP hS (by exact rfl) (by exact rfl) dX8_clearText_17

set_option maxHeartbeats 4000000 in
set_option maxRecDepth 100000 in
theorem c_X8_appendText {l : Launch} {G : GT} {H0 : Heap} (a : Nat → Nat) (v : SVT) (mo ki : Nat → Nat) (pr df : Nat → Int) (co : Int32) (bi : Nat) (g9 : Nat → Int32) (lr : Nat) (bf : Nat → Int) (tn : Nat → Nat) (ln : Nat) (cu : Nat) (hu : cu < 2 ^ 64) (hcs : ¬ CS cu = 0) (hlk : ln + CS cu ≤ 80) (hP0 : PP G (y3W G a v mo ki pr df co bi g9 lr bf tn ln) H0) (hB0 : va_D (lo G) (y3W G a v mo ki pr df co bi g9 lr bf tn ln)) : Met l yX8_appendText wsX8_appendText ({ frames := 1, cells := 0, slots := 0, locals := 24 } : Room) (pcG G [.ref (a 0), .long (lN cu)] H0) (qMi G (fun (r : Int32) (u : Unit) => r = nI (ln + CS cu)) (fun (u : Unit) => y3W G a v mo ki pr df co bi g9 lr bf (adT tn ln cu (CS cu) (CS cu)) (ln + CS cu)) (y3W G a v mo ki pr df co bi g9 lr bf tn ln) H0) 0 0 (va_A (y3W G a v mo ki pr df co bi g9 lr bf tn ln) H0.size) := by
  refine enter (cc := cX8_appendText) (maxL := 4) (ret := some .int) (own := RX8) (lv := [(0, .ref (a 0)), (1, .long (lN cu))]) (by decide) rfl rfl rfl (Nat.le_of_ble_eq_true rfl) ?_
  intro pg ev s m below meth c hx hb hr hts hown hlocks hml hnm hH hC ls hl
  subst hH
  have hLo := va_freeB hB0 hC.2.2.2.1
  have hD := hB0.self (sz := s.heap.size)
  have hS : va_S (va_A (y3W G a v mo ki pr df co bi g9 lr bf tn ln) s.heap.size) s.heap s.heap [] := va_S.rf
  unfold qMi
  generalize hAe : va_A (y3W G a v mo ki pr df co bi g9 lr bf tn ln) s.heap.size = A at hD hLo hS ⊢
  have hA : ∀ q, s.heap.size ≤ q → A q := fun q h => by rw [← hAe]; exact Or.inr h
  generalize ([] : List Loc) = locs at hS ⊢
  have hP := hP0
  refine lv_lload_n hx hb dX8_appendText_0 rfl (lv_at hl 1 rfl) ?_
  refine kPi (va_runSN (As := [.long (lN cu)]) (rest := []) ⟨hx, hb, hml, hown, hts⟩ (c_X1_countSigns cu (by first | assumption | omega)) ⟨va_cnB 1 hts gX8_appendText_X1_countSigns_n190 rfl rfl rfl (hC.nest 72 rfl) (hts (.initialized RX1) (by decide +kernel)) (by decide +kernel) ⟨Nat.le_of_ble_eq_true rfl, Nat.le_of_ble_eq_true rfl⟩, (hts (.static yX1_countSigns) (by decide +kernel)), trivial⟩ (preS hC hS hLo) rfl rfl hl.1 rfl (lv_room (Nat.le_of_ble_eq_true rfl)) dX8_appendText_1 ⟨Nat.zero_le _, Nat.zero_le _⟩) hS (fun locs hS => ?_)
  have hc8 := CS_le cu
  refine lv_istore_n (lv' := [(3, .int (nI (CS cu))), (0, .ref (a 0)), (1, .long (lN cu))]) hx hb dX8_appendText_4 rfl hl (by decide) rfl (fun ls hl => ?_)
  refine lv_iload_n hx hb dX8_appendText_5 rfl (lv_at hl 0 rfl) ?_
  refine lv_if_ne (tgt := 19) hx hb dX8_appendText_6 (by decide) (fun c_1 => ?_) (fun c_1 => ?_)
  · have f_2 : ¬ ((CS cu : Nat) : Int) = (0 : Int) := fun z => c_1 ((c_eq (nI_toInt (n := CS cu) (by omega)) rfl).mpr z)
    refine lv_aload_n hx hb dX8_appendText_19 rfl (lv_at hl 1 rfl) ?_
    refine va_get (D := gD G) (cl := vwCl) (tys := tyl G) (ci := 7) (v := .ref (a 20)) (C := RX8) (T := TX8) (N := 8) hx hb hts (by decide +kernel) hown hC.K hP 0 rfl rfl 4 (by decide) (hts (.fieldLink RX8 40 "MotionPost" "text" "LMotionPost$CommandText;") (by decide +kernel)) (fun _ h9 => h9) rfl dX8_appendText_20 ?_
    refine va_getN (D := gD G) (cl := vwCl) (tys := tyl G) (ci := 1) (v := .int (nI (ln))) (C := RX1) (T := TX1) (N := 2) (host := "MotionPost") (ref := "MotionPost$CommandText") hx hb hts (by decide +kernel) hown hC.K hP 20 rfl rfl 1 (by decide) (hC.nestW 25 rfl rfl) (fun _ h9 => h9) rfl dX8_appendText_23 ?_
    refine lv_iload_n hx hb dX8_appendText_26 rfl (lv_at hl 0 rfl) ?_
    refine gAdd (z := nI (ln + (CS cu))) hx hb dX8_appendText_27 (nI_add _ _) ?_
    refine lv_bipush (v := nI (80)) hx hb dX8_appendText_28 (by decide) ?_
    refine lv_icmp_le (tgt := 43) hx hb dX8_appendText_30 (by decide) (fun c_3 => ?_) (fun c_3 => ?_)
    · have f_4 : ((ln + (CS cu) : Nat) : Int) ≤ (80 : Int) := (c_le (nI_toInt (n := ln + (CS cu)) (by omega)) (nI_toInt (n := 80) (by omega))).mp c_3
      refine lv_aload_n hx hb dX8_appendText_43 rfl (lv_at hl 1 rfl) ?_
      refine va_get (D := gD G) (cl := vwCl) (tys := tyl G) (ci := 7) (v := .ref (a 20)) (C := RX8) (T := TX8) (N := 8) hx hb hts (by decide +kernel) hown hC.K hP 0 rfl rfl 4 (by decide) (hts (.fieldLink RX8 40 "MotionPost" "text" "LMotionPost$CommandText;") (by decide +kernel)) (fun _ h9 => h9) rfl dX8_appendText_44 ?_
      refine lv_lload_n hx hb dX8_appendText_47 rfl (lv_at hl 2 rfl) ?_
      refine lv_iload_n hx hb dX8_appendText_48 rfl (lv_at hl 0 rfl) ?_
      refine kMv (va_runVN (As := [.long (lN cu), .int (nI (CS cu))]) (rest := []) ⟨hx, hb, hml, hown, hts⟩ (c_X1_add (a 20) (a 21) tn ln cu (CS cu) (by first | assumption | omega) (by first | assumption | omega) (by first | assumption | omega) (hP.sub [20, 21] rfl) ((hD.sub [20, 21] (by decide) rfl).weaken (fun _ _ _ h => hLo _ h))) ⟨va_cnB 2 hts gX8_appendText_X1_add_n204 rfl rfl rfl (hC.nest 73 rfl) (hts (.initialized RX1) (by decide +kernel)) (by decide +kernel) ⟨Nat.le_of_ble_eq_true rfl, Nat.le_of_ble_eq_true rfl⟩, (hts (.instanceMethod yX1_add) (by decide +kernel)), (hts (.selects RX1 yX1_add yX1_add) (by decide +kernel))⟩ (preV hC hS hLo hP (ci := 1) (q0 := 20) rfl rfl) rfl rfl hl.1 rfl (lv_room (Nat.le_of_ble_eq_true rfl)) dX8_appendText_49 ⟨Nat.zero_le _, Nat.zero_le _⟩) hP hD hS hA [20, 21] (by decide) rfl (fun _ => rfl) (fun u_5 H locs q_6 hP hD hS => ?_)
      have hP : PP G (y3W G a v mo ki pr df co bi g9 lr bf (adT tn ln cu (CS cu) (CS cu)) (ln + (CS cu))) H := hP
      have hD : va_D A (y3W G a v mo ki pr df co bi g9 lr bf (adT tn ln cu (CS cu) (CS cu)) (ln + (CS cu))) := hD
      refine lv_aload_n hx hb dX8_appendText_52 rfl (lv_at hl 1 rfl) ?_
      refine va_get (D := gD G) (cl := vwCl) (tys := tyl G) (ci := 7) (v := .ref (a 20)) (C := RX8) (T := TX8) (N := 8) hx hb hts (by decide +kernel) hown hC.K hP 0 rfl rfl 4 (by decide) (hts (.fieldLink RX8 40 "MotionPost" "text" "LMotionPost$CommandText;") (by decide +kernel)) (fun _ h9 => h9) rfl dX8_appendText_53 ?_
      refine va_getN (D := gD G) (cl := vwCl) (tys := tyl G) (ci := 1) (v := .int (nI (ln + (CS cu)))) (C := RX1) (T := TX1) (N := 2) (host := "MotionPost") (ref := "MotionPost$CommandText") hx hb hts (by decide +kernel) hown hC.K hP 20 rfl rfl 1 (by decide) (hC.nestW 25 rfl rfl) (fun _ h9 => h9) rfl dX8_appendText_56 ?_
      exact xMi (G := G) (post := (fun (r : Int32) (u : Unit) => r = nI (ln + CS cu))) (w1 := (fun (u : Unit) => y3W G a v mo ki pr df co bi g9 lr bf (adT tn ln cu (CS cu) (CS cu)) (ln + CS cu))) (()) hx hb hr hlocks hP hS (by exact rfl) (by exact rfl) dX8_appendText_59
    · have f_8 : ¬ ((ln + (CS cu) : Nat) : Int) ≤ (80 : Int) := fun z => c_3 ((c_le (nI_toInt (n := ln + (CS cu)) (by omega)) (nI_toInt (n := 80) (by omega))).mpr z)
      exfalso; omega
  · have f_9 : ((CS cu : Nat) : Int) = (0 : Int) := (c_eq (nI_toInt (n := CS cu) (by omega)) rfl).mp c_1
    exfalso; omega

set_option maxHeartbeats 4000000 in
set_option maxRecDepth 100000 in
theorem c_X8_drawByCommand_y {l : Launch} {G : GT} {H0 : Heap} (a : Nat → Nat) (v : SVT) (mo ki : Nat → Nat) (pr df : Nat → Int) (co : Int32) (bi : Nat) (g9 : Nat → Int32) (lr : Nat) (bf : Nat → Int) (tn : Nat → Nat) (ln : Nat) (i p w : Nat) (htn : T128 tn) (hln : ln ≤ 80) (hi : i < ln) (hm9 : AN tn ln (i + 1) < ln) (h1 : nbZ tn ln (i + 1) (AN tn ln (i + 1) - (i + 1)) = (p : Int)) (h2 : nbZ tn ln (AN tn ln (i + 1) + 1) (AN tn ln (AN tn ln (i + 1) + 1) - (AN tn ln (i + 1) + 1)) = (w : Int)) (hp9 : p ≤ 99) (hw9 : w ≤ 99) (hok : p < 64 ∧ w ≤ 15) (hP0 : PP G (y3W G a v mo ki pr df co bi g9 lr bf tn ln) H0) (hB0 : va_D (lo G) (y3W G a v mo ki pr df co bi g9 lr bf tn ln)) : Met l yX8_drawByCommand wsX8_drawByCommand ({ frames := 3, cells := 0, slots := 0, locals := 67 } : Room) (pcG G [.ref (a 0), .int (nI (i))] H0) (qMi G (fun (r : Int32) (u : Unit) => r = nI (1)) (fun (u : Unit) => y3W G a (va_up v.1 p (w : Int), v.2.1, v.2.2.1, v.2.2.2.1, v.2.2.2.2.1, v.2.2.2.2.2.1, v.2.2.2.2.2.2.1, v.2.2.2.2.2.2.2.1, v.2.2.2.2.2.2.2.2.1, v.2.2.2.2.2.2.2.2.2) mo ki pr df co bi g9 lr bf tn ln) (y3W G a v mo ki pr df co bi g9 lr bf tn ln) H0) 0 0 (va_A (y3W G a v mo ki pr df co bi g9 lr bf tn ln) H0.size) := by
  refine enter (cc := cX8_drawByCommand) (maxL := 4) (ret := some .boolean) (own := RX8) (lv := [(0, .ref (a 0)), (1, .int (nI (i)))]) (by decide) rfl rfl rfl (Nat.le_of_ble_eq_true rfl) ?_
  intro pg ev s m below meth c hx hb hr hts hown hlocks hml hnm hH hC ls hl
  subst hH
  have hLo := va_freeB hB0 hC.2.2.2.1
  have hD := hB0.self (sz := s.heap.size)
  have hS : va_S (va_A (y3W G a v mo ki pr df co bi g9 lr bf tn ln) s.heap.size) s.heap s.heap [] := va_S.rf
  unfold qMi
  generalize hAe : va_A (y3W G a v mo ki pr df co bi g9 lr bf tn ln) s.heap.size = A at hD hLo hS ⊢
  have hA : ∀ q, s.heap.size ≤ q → A q := fun q h => by rw [← hAe]; exact Or.inr h
  generalize ([] : List Loc) = locs at hS ⊢
  have hP := hP0
  refine lv_aload_n hx hb dX8_drawByCommand_0 rfl (lv_at hl 0 rfl) ?_
  refine va_get (D := gD G) (cl := vwCl) (tys := tyl G) (ci := 7) (v := .ref (a 20)) (C := RX8) (T := TX8) (N := 8) hx hb hts (by decide +kernel) hown hC.K hP 0 rfl rfl 4 (by decide) (hts (.fieldLink RX8 40 "MotionPost" "text" "LMotionPost$CommandText;") (by decide +kernel)) (fun _ h9 => h9) rfl dX8_drawByCommand_1 ?_
  refine lv_iload_n hx hb dX8_drawByCommand_4 rfl (lv_at hl 1 rfl) ?_
  refine lv_iconst (v := nI (1)) hx hb dX8_drawByCommand_5 (by decide) ?_
  refine gAdd (z := nI (i + 1)) hx hb dX8_drawByCommand_6 (nI_add _ _) ?_
  refine kPi (va_runVN (As := [.int (nI (i + 1))]) (rest := []) ⟨hx, hb, hml, hown, hts⟩ (c_X1_numberFrom (a 20) (a 21) tn ln (i + 1) (by first | assumption | omega) (by first | assumption | omega) (by first | assumption | omega) (hP.sub [20, 21] rfl)) ⟨va_cnB 1 hts gX8_drawByCommand_X1_numberFrom_n303 rfl rfl rfl (hC.nest 76 rfl) (hts (.initialized RX1) (by decide +kernel)) (by decide +kernel) ⟨Nat.le_of_ble_eq_true rfl, Nat.le_of_ble_eq_true rfl⟩, (hts (.instanceMethod yX1_numberFrom) (by decide +kernel)), (hts (.selects RX1 yX1_numberFrom yX1_numberFrom) (by decide +kernel))⟩ (preV hC hS hLo hP (ci := 1) (q0 := 20) rfl rfl) rfl rfl hl.1 rfl (lv_room (Nat.le_of_ble_eq_true rfl)) dX8_drawByCommand_7 ⟨Nat.zero_le _, Nat.zero_le _⟩) hS (fun locs hS => ?_)
  refine topE (v' := nI (p)) ((congrArg iI h1).trans (nI_i p).symm) ?_
  refine lv_istore_n (lv' := [(2, .int (nI (p))), (0, .ref (a 0)), (1, .int (nI (i)))]) hx hb dX8_drawByCommand_10 rfl hl (by decide) rfl (fun ls hl => ?_)
  refine lv_aload_n hx hb dX8_drawByCommand_11 rfl (lv_at hl 1 rfl) ?_
  refine va_get (D := gD G) (cl := vwCl) (tys := tyl G) (ci := 7) (v := .ref (a 20)) (C := RX8) (T := TX8) (N := 8) hx hb hts (by decide +kernel) hown hC.K hP 0 rfl rfl 4 (by decide) (hts (.fieldLink RX8 40 "MotionPost" "text" "LMotionPost$CommandText;") (by decide +kernel)) (fun _ h9 => h9) rfl dX8_drawByCommand_12 ?_
  refine lv_aload_n hx hb dX8_drawByCommand_15 rfl (lv_at hl 1 rfl) ?_
  refine va_get (D := gD G) (cl := vwCl) (tys := tyl G) (ci := 7) (v := .ref (a 20)) (C := RX8) (T := TX8) (N := 8) hx hb hts (by decide +kernel) hown hC.K hP 0 rfl rfl 4 (by decide) (hts (.fieldLink RX8 40 "MotionPost" "text" "LMotionPost$CommandText;") (by decide +kernel)) (fun _ h9 => h9) rfl dX8_drawByCommand_16 ?_
  refine lv_iload_n hx hb dX8_drawByCommand_19 rfl (lv_at hl 2 rfl) ?_
  refine lv_iconst (v := nI (1)) hx hb dX8_drawByCommand_20 (by decide) ?_
  refine gAdd (z := nI (i + 1)) hx hb dX8_drawByCommand_21 (nI_add _ _) ?_
  refine kPi (va_runVN (As := [.int (nI (i + 1))]) (rest := [.ref (a 20)]) ⟨hx, hb, hml, hown, hts⟩ (c_X1_afterNumber (a 20) (a 21) tn ln (i + 1) (by first | assumption | omega) (by first | assumption | omega) (by first | assumption | omega) (hP.sub [20, 21] rfl)) ⟨va_cnB 1 hts gX8_drawByCommand_X1_afterNumber_n306 rfl rfl rfl (hC.nest 77 rfl) (hts (.initialized RX1) (by decide +kernel)) (by decide +kernel) ⟨Nat.le_of_ble_eq_true rfl, Nat.le_of_ble_eq_true rfl⟩, (hts (.instanceMethod yX1_afterNumber) (by decide +kernel)), (hts (.selects RX1 yX1_afterNumber yX1_afterNumber) (by decide +kernel))⟩ (preV hC hS hLo hP (ci := 1) (q0 := 20) rfl rfl) rfl rfl hl.1 rfl (lv_room (Nat.le_of_ble_eq_true rfl)) dX8_drawByCommand_22 ⟨Nat.zero_le _, Nat.zero_le _⟩) hS (fun locs hS => ?_)
  refine lv_iconst (v := nI (1)) hx hb dX8_drawByCommand_25 (by decide) ?_
  refine gAdd (z := nI ((AN tn ln (i + 1)) + 1)) hx hb dX8_drawByCommand_26 (nI_add _ _) ?_
  refine kPi (va_runVN (As := [.int (nI ((AN tn ln (i + 1)) + 1))]) (rest := []) ⟨hx, hb, hml, hown, hts⟩ (c_X1_numberFrom (a 20) (a 21) tn ln ((AN tn ln (i + 1)) + 1) (by first | assumption | omega) (by first | assumption | omega) (by first | assumption | omega) (hP.sub [20, 21] rfl)) ⟨va_cnB 1 hts gX8_drawByCommand_X1_numberFrom_n303 rfl rfl rfl (hC.nest 76 rfl) (hts (.initialized RX1) (by decide +kernel)) (by decide +kernel) ⟨Nat.le_of_ble_eq_true rfl, Nat.le_of_ble_eq_true rfl⟩, (hts (.instanceMethod yX1_numberFrom) (by decide +kernel)), (hts (.selects RX1 yX1_numberFrom yX1_numberFrom) (by decide +kernel))⟩ (preV hC hS hLo hP (ci := 1) (q0 := 20) rfl rfl) rfl rfl hl.1 rfl (lv_room (Nat.le_of_ble_eq_true rfl)) dX8_drawByCommand_27 ⟨Nat.zero_le _, Nat.zero_le _⟩) hS (fun locs hS => ?_)
  refine topE (v' := nI (w)) ((congrArg iI h2).trans (nI_i w).symm) ?_
  refine lv_istore_n (lv' := [(3, .int (nI (w))), (2, .int (nI (p))), (0, .ref (a 0)), (1, .int (nI (i)))]) hx hb dX8_drawByCommand_30 rfl hl (by decide) rfl (fun ls hl => ?_)
  refine lv_iload_n hx hb dX8_drawByCommand_31 rfl (lv_at hl 1 rfl) ?_
  refine lv_bipush (v := nI (64)) hx hb dX8_drawByCommand_32 (by decide) ?_
  refine lv_icmp_ge (tgt := 43) hx hb dX8_drawByCommand_34 (by decide) (fun c_1 => ?_) (fun c_1 => ?_)
  · have f_2 : (64 : Int) ≤ ((p : Nat) : Int) := (c_le (nI_toInt (n := 64) (by omega)) (nI_toInt (n := p) (by omega))).mp c_1
    exfalso; omega
  · have f_3 : ¬ (64 : Int) ≤ ((p : Nat) : Int) := fun z => c_1 ((c_le (nI_toInt (n := 64) (by omega)) (nI_toInt (n := p) (by omega))).mpr z)
    refine lv_iload_n hx hb dX8_drawByCommand_37 rfl (lv_at hl 0 rfl) ?_
    refine lv_bipush (v := nI (15)) hx hb dX8_drawByCommand_38 (by decide) ?_
    refine lv_icmp_le (tgt := 45) hx hb dX8_drawByCommand_40 (by decide) (fun c_4 => ?_) (fun c_4 => ?_)
    · have f_5 : ((w : Nat) : Int) ≤ (15 : Int) := (c_le (nI_toInt (n := w) (by omega)) (nI_toInt (n := 15) (by omega))).mp c_4
      refine lv_aload_n hx hb dX8_drawByCommand_45 rfl (lv_at hl 2 rfl) ?_
      refine va_get (D := gD G) (cl := vwCl) (tys := tyl G) (ci := 7) (v := .ref (a 1)) (C := RX8) (T := TX8) (N := 8) hx hb hts (by decide +kernel) hown hC.K hP 0 rfl rfl 0 (by decide) (hts (.fieldLink RX8 12 "MotionPost" "now" "LMotionPost$State;") (by decide +kernel)) (fun _ h9 => h9) rfl dX8_drawByCommand_46 ?_
      refine va_getN (D := gD G) (cl := vwCl) (tys := tyl G) (ci := 6) (v := .ref (a 2)) (C := RX7) (T := TX7) (N := 10) (host := "MotionPost") (ref := "MotionPost$State") hx hb hts (by decide +kernel) hown hC.K hP 1 rfl rfl 0 (by decide) (hC.nestW 2 rfl rfl) (fun _ h9 => h9) rfl dX8_drawByCommand_49 ?_
      refine lv_iload_n hx hb dX8_drawByCommand_52 rfl (lv_at hl 1 rfl) ?_
      refine lv_iload_n hx hb dX8_drawByCommand_53 rfl (lv_at hl 0 rfl) ?_
      refine kMi (va_runVN (As := [.int (nI (p)), .int (nI (w))]) (rest := []) ⟨hx, hb, hml, hown, hts⟩ (c_X4_put (a 2) (a 3) v.1 p ((w : Nat) : Int) (by first | assumption | omega) (hP.sub [2, 3] rfl) ((hD.sub [2, 3] (by decide) rfl).weaken (fun _ _ _ h => hLo _ h))) ⟨va_cnB 2 hts gX8_drawByCommand_X4_put_n76 rfl rfl rfl (hC.nest 53 rfl) (hts (.initialized RX4) (by decide +kernel)) (by decide +kernel) ⟨Nat.le_of_ble_eq_true rfl, Nat.le_of_ble_eq_true rfl⟩, (hts (.instanceMethod yX4_put) (by decide +kernel)), (hts (.selects RX4 yX4_put yX4_put) (by decide +kernel))⟩ (preV hC hS hLo hP (ci := 3) (q0 := 2) rfl rfl) rfl rfl hl.1 rfl (lv_room (Nat.le_of_ble_eq_true rfl)) dX8_drawByCommand_54 ⟨Nat.zero_le _, Nat.zero_le _⟩) hP hD hS hA [2, 3] (by decide) rfl (fun _ => rfl) (fun r_8 u_6 H locs q_7 hP hD hS => ?_)
      have hP : PP G (y3W G a (va_up v.1 p ((w : Nat) : Int), v.2.1, v.2.2.1, v.2.2.2.1, v.2.2.2.2.1, v.2.2.2.2.2.1, v.2.2.2.2.2.2.1, v.2.2.2.2.2.2.2.1, v.2.2.2.2.2.2.2.2.1, v.2.2.2.2.2.2.2.2.2) mo ki pr df co bi g9 lr bf tn ln) H := hP
      have hD : va_D A (y3W G a (va_up v.1 p ((w : Nat) : Int), v.2.1, v.2.2.1, v.2.2.2.1, v.2.2.2.2.1, v.2.2.2.2.2.1, v.2.2.2.2.2.2.1, v.2.2.2.2.2.2.2.1, v.2.2.2.2.2.2.2.2.1, v.2.2.2.2.2.2.2.2.2) mo ki pr df co bi g9 lr bf tn ln) := hD
      refine topE (v' := iI (v.1 p)) (q_7) ?_
      refine lv_pop hx hb dX8_drawByCommand_57 rfl ?_
      refine lv_iconst (v := nI (1)) hx hb dX8_drawByCommand_58 (by decide) ?_
      exact xMi (G := G) (post := (fun (r : Int32) (u : Unit) => r = nI (1))) (w1 := (fun (u : Unit) => y3W G a (va_up v.1 p (w : Int), v.2.1, v.2.2.1, v.2.2.2.1, v.2.2.2.2.1, v.2.2.2.2.2.1, v.2.2.2.2.2.2.1, v.2.2.2.2.2.2.2.1, v.2.2.2.2.2.2.2.2.1, v.2.2.2.2.2.2.2.2.2) mo ki pr df co bi g9 lr bf tn ln)) (()) hx hb hr hlocks hP hS (by exact rfl) (by exact rfl) dX8_drawByCommand_59
    · have f_9 : ¬ ((w : Nat) : Int) ≤ (15 : Int) := fun z => c_4 ((c_le (nI_toInt (n := w) (by omega)) (nI_toInt (n := 15) (by omega))).mpr z)
      exfalso; omega

set_option maxHeartbeats 4000000 in
set_option maxRecDepth 100000 in
theorem c_X8_drawByCommand_n {l : Launch} {G : GT} {H0 : Heap} (a : Nat → Nat) (v : SVT) (mo ki : Nat → Nat) (pr df : Nat → Int) (co : Int32) (bi : Nat) (g9 : Nat → Int32) (lr : Nat) (bf : Nat → Int) (tn : Nat → Nat) (ln : Nat) (i p w : Nat) (htn : T128 tn) (hln : ln ≤ 80) (hi : i < ln) (hm9 : AN tn ln (i + 1) < ln) (h1 : nbZ tn ln (i + 1) (AN tn ln (i + 1) - (i + 1)) = (p : Int)) (h2 : nbZ tn ln (AN tn ln (i + 1) + 1) (AN tn ln (AN tn ln (i + 1) + 1) - (AN tn ln (i + 1) + 1)) = (w : Int)) (hp9 : p ≤ 99) (hw9 : w ≤ 99) (hok : ¬ (p < 64 ∧ w ≤ 15)) (hP0 : PP G (y3W G a v mo ki pr df co bi g9 lr bf tn ln) H0) (hB0 : va_D (lo G) (y3W G a v mo ki pr df co bi g9 lr bf tn ln)) : Met l yX8_drawByCommand wsX8_drawByCommand ({ frames := 3, cells := 0, slots := 0, locals := 67 } : Room) (pcG G [.ref (a 0), .int (nI (i))] H0) (qMi G (fun (r : Int32) (u : Unit) => r = nI (0)) (fun (u : Unit) => y3W G a v mo ki pr df co bi g9 lr bf tn ln) (y3W G a v mo ki pr df co bi g9 lr bf tn ln) H0) 0 0 (va_A (y3W G a v mo ki pr df co bi g9 lr bf tn ln) H0.size) := by
  refine enter (cc := cX8_drawByCommand) (maxL := 4) (ret := some .boolean) (own := RX8) (lv := [(0, .ref (a 0)), (1, .int (nI (i)))]) (by decide) rfl rfl rfl (Nat.le_of_ble_eq_true rfl) ?_
  intro pg ev s m below meth c hx hb hr hts hown hlocks hml hnm hH hC ls hl
  subst hH
  have hLo := va_freeB hB0 hC.2.2.2.1
  have hD := hB0.self (sz := s.heap.size)
  have hS : va_S (va_A (y3W G a v mo ki pr df co bi g9 lr bf tn ln) s.heap.size) s.heap s.heap [] := va_S.rf
  unfold qMi
  generalize hAe : va_A (y3W G a v mo ki pr df co bi g9 lr bf tn ln) s.heap.size = A at hD hLo hS ⊢
  have hA : ∀ q, s.heap.size ≤ q → A q := fun q h => by rw [← hAe]; exact Or.inr h
  generalize ([] : List Loc) = locs at hS ⊢
  have hP := hP0
  refine lv_aload_n hx hb dX8_drawByCommand_0 rfl (lv_at hl 0 rfl) ?_
  refine va_get (D := gD G) (cl := vwCl) (tys := tyl G) (ci := 7) (v := .ref (a 20)) (C := RX8) (T := TX8) (N := 8) hx hb hts (by decide +kernel) hown hC.K hP 0 rfl rfl 4 (by decide) (hts (.fieldLink RX8 40 "MotionPost" "text" "LMotionPost$CommandText;") (by decide +kernel)) (fun _ h9 => h9) rfl dX8_drawByCommand_1 ?_
  refine lv_iload_n hx hb dX8_drawByCommand_4 rfl (lv_at hl 1 rfl) ?_
  refine lv_iconst (v := nI (1)) hx hb dX8_drawByCommand_5 (by decide) ?_
  refine gAdd (z := nI (i + 1)) hx hb dX8_drawByCommand_6 (nI_add _ _) ?_
  refine kPi (va_runVN (As := [.int (nI (i + 1))]) (rest := []) ⟨hx, hb, hml, hown, hts⟩ (c_X1_numberFrom (a 20) (a 21) tn ln (i + 1) (by first | assumption | omega) (by first | assumption | omega) (by first | assumption | omega) (hP.sub [20, 21] rfl)) ⟨va_cnB 1 hts gX8_drawByCommand_X1_numberFrom_n303 rfl rfl rfl (hC.nest 76 rfl) (hts (.initialized RX1) (by decide +kernel)) (by decide +kernel) ⟨Nat.le_of_ble_eq_true rfl, Nat.le_of_ble_eq_true rfl⟩, (hts (.instanceMethod yX1_numberFrom) (by decide +kernel)), (hts (.selects RX1 yX1_numberFrom yX1_numberFrom) (by decide +kernel))⟩ (preV hC hS hLo hP (ci := 1) (q0 := 20) rfl rfl) rfl rfl hl.1 rfl (lv_room (Nat.le_of_ble_eq_true rfl)) dX8_drawByCommand_7 ⟨Nat.zero_le _, Nat.zero_le _⟩) hS (fun locs hS => ?_)
  refine topE (v' := nI (p)) ((congrArg iI h1).trans (nI_i p).symm) ?_
  refine lv_istore_n (lv' := [(2, .int (nI (p))), (0, .ref (a 0)), (1, .int (nI (i)))]) hx hb dX8_drawByCommand_10 rfl hl (by decide) rfl (fun ls hl => ?_)
  refine lv_aload_n hx hb dX8_drawByCommand_11 rfl (lv_at hl 1 rfl) ?_
  refine va_get (D := gD G) (cl := vwCl) (tys := tyl G) (ci := 7) (v := .ref (a 20)) (C := RX8) (T := TX8) (N := 8) hx hb hts (by decide +kernel) hown hC.K hP 0 rfl rfl 4 (by decide) (hts (.fieldLink RX8 40 "MotionPost" "text" "LMotionPost$CommandText;") (by decide +kernel)) (fun _ h9 => h9) rfl dX8_drawByCommand_12 ?_
  refine lv_aload_n hx hb dX8_drawByCommand_15 rfl (lv_at hl 1 rfl) ?_
  refine va_get (D := gD G) (cl := vwCl) (tys := tyl G) (ci := 7) (v := .ref (a 20)) (C := RX8) (T := TX8) (N := 8) hx hb hts (by decide +kernel) hown hC.K hP 0 rfl rfl 4 (by decide) (hts (.fieldLink RX8 40 "MotionPost" "text" "LMotionPost$CommandText;") (by decide +kernel)) (fun _ h9 => h9) rfl dX8_drawByCommand_16 ?_
  refine lv_iload_n hx hb dX8_drawByCommand_19 rfl (lv_at hl 2 rfl) ?_
  refine lv_iconst (v := nI (1)) hx hb dX8_drawByCommand_20 (by decide) ?_
  refine gAdd (z := nI (i + 1)) hx hb dX8_drawByCommand_21 (nI_add _ _) ?_
  refine kPi (va_runVN (As := [.int (nI (i + 1))]) (rest := [.ref (a 20)]) ⟨hx, hb, hml, hown, hts⟩ (c_X1_afterNumber (a 20) (a 21) tn ln (i + 1) (by first | assumption | omega) (by first | assumption | omega) (by first | assumption | omega) (hP.sub [20, 21] rfl)) ⟨va_cnB 1 hts gX8_drawByCommand_X1_afterNumber_n306 rfl rfl rfl (hC.nest 77 rfl) (hts (.initialized RX1) (by decide +kernel)) (by decide +kernel) ⟨Nat.le_of_ble_eq_true rfl, Nat.le_of_ble_eq_true rfl⟩, (hts (.instanceMethod yX1_afterNumber) (by decide +kernel)), (hts (.selects RX1 yX1_afterNumber yX1_afterNumber) (by decide +kernel))⟩ (preV hC hS hLo hP (ci := 1) (q0 := 20) rfl rfl) rfl rfl hl.1 rfl (lv_room (Nat.le_of_ble_eq_true rfl)) dX8_drawByCommand_22 ⟨Nat.zero_le _, Nat.zero_le _⟩) hS (fun locs hS => ?_)
  refine lv_iconst (v := nI (1)) hx hb dX8_drawByCommand_25 (by decide) ?_
  refine gAdd (z := nI ((AN tn ln (i + 1)) + 1)) hx hb dX8_drawByCommand_26 (nI_add _ _) ?_
  refine kPi (va_runVN (As := [.int (nI ((AN tn ln (i + 1)) + 1))]) (rest := []) ⟨hx, hb, hml, hown, hts⟩ (c_X1_numberFrom (a 20) (a 21) tn ln ((AN tn ln (i + 1)) + 1) (by first | assumption | omega) (by first | assumption | omega) (by first | assumption | omega) (hP.sub [20, 21] rfl)) ⟨va_cnB 1 hts gX8_drawByCommand_X1_numberFrom_n303 rfl rfl rfl (hC.nest 76 rfl) (hts (.initialized RX1) (by decide +kernel)) (by decide +kernel) ⟨Nat.le_of_ble_eq_true rfl, Nat.le_of_ble_eq_true rfl⟩, (hts (.instanceMethod yX1_numberFrom) (by decide +kernel)), (hts (.selects RX1 yX1_numberFrom yX1_numberFrom) (by decide +kernel))⟩ (preV hC hS hLo hP (ci := 1) (q0 := 20) rfl rfl) rfl rfl hl.1 rfl (lv_room (Nat.le_of_ble_eq_true rfl)) dX8_drawByCommand_27 ⟨Nat.zero_le _, Nat.zero_le _⟩) hS (fun locs hS => ?_)
  refine topE (v' := nI (w)) ((congrArg iI h2).trans (nI_i w).symm) ?_
  refine lv_istore_n (lv' := [(3, .int (nI (w))), (2, .int (nI (p))), (0, .ref (a 0)), (1, .int (nI (i)))]) hx hb dX8_drawByCommand_30 rfl hl (by decide) rfl (fun ls hl => ?_)
  refine lv_iload_n hx hb dX8_drawByCommand_31 rfl (lv_at hl 1 rfl) ?_
  refine lv_bipush (v := nI (64)) hx hb dX8_drawByCommand_32 (by decide) ?_
  refine lv_icmp_ge (tgt := 43) hx hb dX8_drawByCommand_34 (by decide) (fun c_1 => ?_) (fun c_1 => ?_)
  · have f_2 : (64 : Int) ≤ ((p : Nat) : Int) := (c_le (nI_toInt (n := 64) (by omega)) (nI_toInt (n := p) (by omega))).mp c_1
    refine lv_iconst (v := nI (0)) hx hb dX8_drawByCommand_43 (by decide) ?_
    exact xMi (G := G) (post := (fun (r : Int32) (u : Unit) => r = nI (0))) (w1 := (fun (u : Unit) => y3W G a v mo ki pr df co bi g9 lr bf tn ln)) (()) hx hb hr hlocks hP hS (by exact rfl) (by exact rfl) dX8_drawByCommand_44
  · have f_3 : ¬ (64 : Int) ≤ ((p : Nat) : Int) := fun z => c_1 ((c_le (nI_toInt (n := 64) (by omega)) (nI_toInt (n := p) (by omega))).mpr z)
    refine lv_iload_n hx hb dX8_drawByCommand_37 rfl (lv_at hl 0 rfl) ?_
    refine lv_bipush (v := nI (15)) hx hb dX8_drawByCommand_38 (by decide) ?_
    refine lv_icmp_le (tgt := 45) hx hb dX8_drawByCommand_40 (by decide) (fun c_4 => ?_) (fun c_4 => ?_)
    · have f_5 : ((w : Nat) : Int) ≤ (15 : Int) := (c_le (nI_toInt (n := w) (by omega)) (nI_toInt (n := 15) (by omega))).mp c_4
      exfalso; omega
    · have f_6 : ¬ ((w : Nat) : Int) ≤ (15 : Int) := fun z => c_4 ((c_le (nI_toInt (n := w) (by omega)) (nI_toInt (n := 15) (by omega))).mpr z)
      refine lv_iconst (v := nI (0)) hx hb dX8_drawByCommand_43 (by decide) ?_
      exact xMi (G := G) (post := (fun (r : Int32) (u : Unit) => r = nI (0))) (w1 := (fun (u : Unit) => y3W G a v mo ki pr df co bi g9 lr bf tn ln)) (()) hx hb hr hlocks hP hS (by exact rfl) (by exact rfl) dX8_drawByCommand_44
