set_option maxHeartbeats 4000000 in
set_option maxRecDepth 100000 in
theorem c_X6_init {l : Launch} {G : GT} {H0 : Heap} (h : Nat)  (hP0 : PP G ([(h, .inr (5, [.null, .int (nI (0))]))]) H0) (hB0 : va_D (lo G) ([(h, .inr (5, [.null, .int (nI (0))]))])) : Met l yX6_init wsX6_init ({ frames := 3, cells := 9, slots := 213, locals := 60 } : Room) (pcG G [.ref h] H0) (qNv G (fun (u : Nat → Nat) => True) (fun (u : Nat → Nat) => ([(h, .inr (5, [.ref (u 0), .int (nI (0))]))] ++ stW G (u 0) (u 1) (u 2) (u 3) (u 4) (u 5) (u 6) (u 7) (u 8) (fun _ => 0, fun _ => 0, fun _ => 0, fun _ => 0, fun _ => 0, 120, 8, 0, 0, 0))) ([(h, .inr (5, [.null, .int (nI (0))]))]) H0) 9 213 (va_A ([(h, .inr (5, [.null, .int (nI (0))]))]) H0.size) := by
  refine enter (cc := cX6_init) (maxL := 1) (ret := none) (own := RX6) (lv := [(0, .ref h)]) (by decide) rfl rfl rfl (Nat.le_of_ble_eq_true rfl) ?_
  intro pg ev s m below meth c hx hb hr hts hown hlocks hml hnm hH hC ls hl
  subst hH
  have hLo := va_freeB hB0 hC.2.2.2.1
  have hD := hB0.self (sz := s.heap.size)
  have hS : va_S (va_A ([(h, .inr (5, [.null, .int (nI (0))]))]) s.heap.size) s.heap s.heap [] := va_S.rf
  unfold qNv
  generalize hAe : va_A ([(h, .inr (5, [.null, .int (nI (0))]))]) s.heap.size = A at hD hLo hS ⊢
  have hA : ∀ q, s.heap.size ≤ q → A q := fun q h => by rw [← hAe]; exact Or.inr h
  generalize ([] : List Loc) = locs at hS ⊢
  have hP := hP0
  refine lv_aload_n hx hb dX6_init_0 rfl (lv_at hl 0 rfl) ?_
  refine W.objInit hx hb hown (hts (.methodLink RX6 1 objectInit) (by decide +kernel)) (hts (.instanceMethod objectInit) (by decide +kernel)) (hts (.code objectInit ⟨#[0xb1]⟩ 1 none) (by decide +kernel)) rfl (by rw [hml]; exact hl.1) rfl dX6_init_1 (Nat.le_of_ble_eq_true rfl) (Nat.le_of_ble_eq_true rfl) ?_
  refine W.eq (g2 := F0 m 4 ls []) rfl ?_
  refine lv_aload_n hx hb dX6_init_4 rfl (lv_at hl 0 rfl) ?_
  refine va_new (D := gD G) (cl := vwCl) (tys := tyl G) (ci := 6) (fs := [.null, .null, .null, .null, .null, .int (nI (0)), .int (nI (0)), .int (nI (0)), .int (nI (0)), .int (nI (0))]) (C := RX7) (T := TX7) (N := 10) hx hb hts (by decide +kernel) tyX7 tyX7_ok hown (hts (.classLink RX6 7 RX7) (by decide +kernel)) (hts (.instantiable RX7 10) (by decide +kernel)) (hts (.initialized RX7) (by decide +kernel)) hC.K hP hD hS hA rfl (fun j hj => by rcases (show j = 0 ∨ j = 1 ∨ j = 2 ∨ j = 3 ∨ j = 4 ∨ j = 5 ∨ j = 6 ∨ j = 7 ∨ j = 8 ∨ j = 9 by omega) with rfl | rfl | rfl | rfl | rfl | rfl | rfl | rfl | rfl | rfl <;> rfl) (Nat.le_of_ble_eq_true rfl) (Nat.le_of_ble_eq_true rfl) dX6_init_5 (fun q_1 H hP hD hS => ?_)
  have hP : PP G (([(h, .inr (5, [.null, .int (nI (0))]))] ++ [(q_1, .inr (6, [.null, .null, .null, .null, .null, .int (nI (0)), .int (nI (0)), .int (nI (0)), .int (nI (0)), .int (nI (0))]))])) H := hP
  have hD : va_D A (([(h, .inr (5, [.null, .int (nI (0))]))] ++ [(q_1, .inr (6, [.null, .null, .null, .null, .null, .int (nI (0)), .int (nI (0)), .int (nI (0)), .int (nI (0)), .int (nI (0))]))])) := hD
  refine lv_dup hx hb dX6_init_8 rfl ?_
  refine kNewV (va_runIN (As := []) (rest := [.ref q_1, .ref h]) ⟨hx, hb, hml, hown, hts⟩ (c_X7_init q_1 (PP_r hP) ((pre_D (va_D_swap hD)).weaken (fun _ _ _ h => hLo _ h))) ⟨va_cnB 0 hts gX6_init_X7_init_n9 rfl rfl rfl (hC.nest 30 rfl) (hts (.initialized RX7) (by decide +kernel)) (by decide +kernel) ⟨Nat.le_of_ble_eq_true rfl, Nat.le_of_ble_eq_true rfl⟩, rfl, (hts (.instanceMethod yX7_init) (by decide +kernel))⟩ (preS hC hS hLo) rfl rfl hl.1 rfl (lv_room (Nat.le_of_ble_eq_true rfl)) dX6_init_9 ⟨Nat.le_of_ble_eq_true rfl, Nat.le_of_ble_eq_true rfl⟩) hP hD hS hA (fun u_2 H locs _ hP hD hS => ?_)
  have hP : PP G (([(h, .inr (5, [.null, .int (nI (0))]))] ++ stW G q_1 (u_2 0) (u_2 1) (u_2 2) (u_2 3) (u_2 4) (u_2 5) (u_2 6) (u_2 7) (fun _ => 0, fun _ => 0, fun _ => 0, fun _ => 0, fun _ => 0, 120, 8, 0, 0, 0))) H := hP
  have hD : va_D A (([(h, .inr (5, [.null, .int (nI (0))]))] ++ stW G q_1 (u_2 0) (u_2 1) (u_2 2) (u_2 3) (u_2 4) (u_2 5) (u_2 6) (u_2 7) (fun _ => 0, fun _ => 0, fun _ => 0, fun _ => 0, fun _ => 0, 120, 8, 0, 0, 0))) := hD
  refine va_putF (D := gD G) (cl := vwCl) (tys := tyl G) (ci := 5) (v := .ref q_1) (ty := .object "MotionPost$State") (C := RX6) (T := TX6) (N := 2) hx hb hts (by decide +kernel) tyX6 tyX6_ok nmX6 hown hC.K hP hD hS 0 rfl rfl 0 (by decide) (hts (.fieldLink RX6 10 "MotionPost$Slot" "state" "LMotionPost$State;") (by decide +kernel)) (fun _ h9 => h9) rfl hnm rfl (by decide +kernel) (rfl) rfl (Nat.le_of_ble_eq_true rfl) dX6_init_12 (fun H locs hP hD hS => ?_)
  have hP : PP G (([(h, .inr (5, [.ref q_1, .int (nI (0))]))] ++ stW G q_1 (u_2 0) (u_2 1) (u_2 2) (u_2 3) (u_2 4) (u_2 5) (u_2 6) (u_2 7) (fun _ => 0, fun _ => 0, fun _ => 0, fun _ => 0, fun _ => 0, 120, 8, 0, 0, 0))) H := hP
  have hD : va_D A (([(h, .inr (5, [.ref q_1, .int (nI (0))]))] ++ stW G q_1 (u_2 0) (u_2 1) (u_2 2) (u_2 3) (u_2 4) (u_2 5) (u_2 6) (u_2 7) (fun _ => 0, fun _ => 0, fun _ => 0, fun _ => 0, fun _ => 0, 120, 8, 0, 0, 0))) := hD
  refine lv_aload_n hx hb dX6_init_15 rfl (lv_at hl 0 rfl) ?_
  refine lv_iconst (v := nI (0)) hx hb dX6_init_16 (by decide) ?_
  refine va_put (D := gD G) (cl := vwCl) (tys := tyl G) (ci := 5) (v := .int (nI (0))) (ty := .boolean) (C := RX6) (T := TX6) (N := 2) hx hb hts (by decide +kernel) tyX6 tyX6_ok nmX6 hown hC.K hP hD hS 0 rfl rfl 1 (by decide) (hts (.fieldLink RX6 16 "MotionPost$Slot" "isSaved" "Z") (by decide +kernel)) (fun _ h9 => h9) rfl (by decide +kernel) (rfl) rfl (Nat.le_of_ble_eq_true rfl) dX6_init_17 (fun H locs hP hD hS => ?_)
  have hP : PP G (([(h, .inr (5, [.ref q_1, .int (nI (0))]))] ++ stW G q_1 (u_2 0) (u_2 1) (u_2 2) (u_2 3) (u_2 4) (u_2 5) (u_2 6) (u_2 7) (fun _ => 0, fun _ => 0, fun _ => 0, fun _ => 0, fun _ => 0, 120, 8, 0, 0, 0))) H := hP
  have hD : va_D A (([(h, .inr (5, [.ref q_1, .int (nI (0))]))] ++ stW G q_1 (u_2 0) (u_2 1) (u_2 2) (u_2 3) (u_2 4) (u_2 5) (u_2 6) (u_2 7) (fun _ => 0, fun _ => 0, fun _ => 0, fun _ => 0, fun _ => 0, 120, 8, 0, 0, 0))) := hD
  refine W.widen (k := 9) (n := 213) (by omega) (by omega) ?_
  exact xNv (G := G) (post := (fun (u : Nat → Nat) => True)) (w1 := (fun (u : Nat → Nat) => ([(h, .inr (5, [.ref (u 0), .int (nI (0))]))] ++ stW G (u 0) (u 1) (u 2) (u 3) (u 4) (u 5) (u 6) (u 7) (u 8) (fun _ => 0, fun _ => 0, fun _ => 0, fun _ => 0, fun _ => 0, 120, 8, 0, 0, 0)))) (fun i9 => (([q_1, u_2 0, u_2 1, u_2 2, u_2 3, u_2 4, u_2 5, u_2 6, u_2 7] : List Nat).getD i9 0)) hx hb hr hlocks hP hD hS trivial dX6_init_20

