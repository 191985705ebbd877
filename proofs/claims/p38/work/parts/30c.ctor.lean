set_option maxHeartbeats 4000000 in
set_option maxRecDepth 100000 in
theorem c_X5_init {l : Launch} {G : GT} {H0 : Heap} (h : Nat)  (hP0 : PP G ([(h, .inr (4, [.null, .null, .null, .null, .int (nI (0)), .int (nI (0))]))]) H0) (hB0 : va_D (lo G) ([(h, .inr (4, [.null, .null, .null, .null, .int (nI (0)), .int (nI (0))]))])) : Met l yX5_init wsX5_init ({ frames := 2, cells := 5, slots := 137, locals := 40 } : Room) (pcG G [.ref h] H0) (qNv G (fun (u : Nat → Nat) => True) (fun (u : Nat → Nat) => [(h, .inr (4, [.ref (u 0), .ref (u 1), .ref (u 2), .ref (u 4), .int (iI (-1)), .int (nI (0))])), (u 0, .inl (cI G, 4, .inl (fun z9 => nI ((fun _ => 0) z9)))), (u 1, .inl (cI G, 4, .inl (fun z9 => nI ((fun _ => 0) z9)))), (u 2, .inr (3, [.ref (u 3)])), (u 3, .inl (cI G, 64, .inl (fun z9 => iI ((fun _ => 0) z9)))), (u 4, .inl (cI G, 64, .inl (fun z9 => iI ((fun _ => 0) z9))))]) ([(h, .inr (4, [.null, .null, .null, .null, .int (nI (0)), .int (nI (0))]))]) H0) 5 137 (va_A ([(h, .inr (4, [.null, .null, .null, .null, .int (nI (0)), .int (nI (0))]))]) H0.size) := by
  refine enter (cc := cX5_init) (maxL := 1) (ret := none) (own := RX5) (lv := [(0, .ref h)]) (by decide) rfl rfl rfl (Nat.le_of_ble_eq_true rfl) ?_
  intro pg ev s m below meth c hx hb hr hts hown hlocks hml hnm hH hC ls hl
  subst hH
  have hLo := va_freeB hB0 hC.2.2.2.1
  have hD := hB0.self (sz := s.heap.size)
  have hS : va_S (va_A ([(h, .inr (4, [.null, .null, .null, .null, .int (nI (0)), .int (nI (0))]))]) s.heap.size) s.heap s.heap [] := va_S.rf
  unfold qNv
  generalize hAe : va_A ([(h, .inr (4, [.null, .null, .null, .null, .int (nI (0)), .int (nI (0))]))]) s.heap.size = A at hD hLo hS ⊢
  have hA : ∀ q, s.heap.size ≤ q → A q := fun q h => by rw [← hAe]; exact Or.inr h
  generalize ([] : List Loc) = locs at hS ⊢
  have hP := hP0
  refine lv_aload_n hx hb dX5_init_0 rfl (lv_at hl 0 rfl) ?_
  refine W.objInit hx hb hown (hts (.methodLink RX5 3 objectInit) (by decide +kernel)) (hts (.instanceMethod objectInit) (by decide +kernel)) (hts (.code objectInit ⟨#[0xb1]⟩ 1 none) (by decide +kernel)) rfl (by rw [hml]; exact hl.1) rfl dX5_init_1 (Nat.le_of_ble_eq_true rfl) (Nat.le_of_ble_eq_true rfl) ?_
  refine W.eq (g2 := F0 m 4 ls []) rfl ?_
  refine lv_aload_n hx hb dX5_init_4 rfl (lv_at hl 0 rfl) ?_
  refine lv_iconst (v := nI (4)) hx hb dX5_init_5 (by decide) ?_
  refine gNewA (t0 := 0) (atype := .int) (n := nI 4) (cX := cI G) (ty := .int) (a0 := (4, .inl (fun z9 => iI ((fun _ => 0) z9)))) hx hb (hts (.arrayClass .int) (by decide +kernel)) rfl rfl hC.K hP hD hS hA (cell0_i 4) (by decide) (by decide +kernel) (by decide +kernel) (Nat.le_of_ble_eq_true rfl) (Nat.le_of_ble_eq_true rfl) dX5_init_6 (fun q_1 H hP hD hS => ?_)
  have hP : PP G (([(h, .inr (4, [.null, .null, .null, .null, .int (nI (0)), .int (nI (0))]))] ++ [(q_1, .inl (cI G, 4, .inl (fun z9 => iI ((fun _ => 0) z9))))])) H := hP
  have hD : va_D A (([(h, .inr (4, [.null, .null, .null, .null, .int (nI (0)), .int (nI (0))]))] ++ [(q_1, .inl (cI G, 4, .inl (fun z9 => iI ((fun _ => 0) z9))))])) := hD
  refine va_putF (D := gD G) (cl := vwCl) (tys := tyl G) (ci := 4) (v := .ref q_1) (ty := .array .int) (C := RX5) (T := TX5) (N := 6) hx hb hts (by decide +kernel) tyX5 tyX5_ok nmX5 hown hC.K hP hD hS 0 rfl rfl 0 (by decide) (hts (.fieldLink RX5 9 "MotionPost$Plan" "moves" "[I") (by decide +kernel)) (fun _ h9 => h9) rfl hnm rfl (by decide +kernel) (rfl) rfl (Nat.le_of_ble_eq_true rfl) dX5_init_8 (fun H locs hP hD hS => ?_)
  have hP : PP G (([(h, .inr (4, [.ref q_1, .null, .null, .null, .int (nI (0)), .int (nI (0))]))] ++ [(q_1, .inl (cI G, 4, .inl (fun z9 => iI ((fun _ => 0) z9))))])) H := hP
  have hD : va_D A (([(h, .inr (4, [.ref q_1, .null, .null, .null, .int (nI (0)), .int (nI (0))]))] ++ [(q_1, .inl (cI G, 4, .inl (fun z9 => iI ((fun _ => 0) z9))))])) := hD
  refine lv_aload_n hx hb dX5_init_11 rfl (lv_at hl 0 rfl) ?_
  refine lv_iconst (v := nI (4)) hx hb dX5_init_12 (by decide) ?_
  refine gNewA (t0 := 0) (atype := .int) (n := nI 4) (cX := cI G) (ty := .int) (a0 := (4, .inl (fun z9 => iI ((fun _ => 0) z9)))) hx hb (hts (.arrayClass .int) (by decide +kernel)) rfl rfl hC.K hP hD hS hA (cell0_i 4) (by decide) (by decide +kernel) (by decide +kernel) (Nat.le_of_ble_eq_true rfl) (Nat.le_of_ble_eq_true rfl) dX5_init_13 (fun q_2 H hP hD hS => ?_)
  have hP : PP G ((([(h, .inr (4, [.ref q_1, .null, .null, .null, .int (nI (0)), .int (nI (0))]))] ++ [(q_1, .inl (cI G, 4, .inl (fun z9 => iI ((fun _ => 0) z9))))]) ++ [(q_2, .inl (cI G, 4, .inl (fun z9 => iI ((fun _ => 0) z9))))])) H := hP
  have hD : va_D A ((([(h, .inr (4, [.ref q_1, .null, .null, .null, .int (nI (0)), .int (nI (0))]))] ++ [(q_1, .inl (cI G, 4, .inl (fun z9 => iI ((fun _ => 0) z9))))]) ++ [(q_2, .inl (cI G, 4, .inl (fun z9 => iI ((fun _ => 0) z9))))])) := hD
  refine va_putF (D := gD G) (cl := vwCl) (tys := tyl G) (ci := 4) (v := .ref q_2) (ty := .array .int) (C := RX5) (T := TX5) (N := 6) hx hb hts (by decide +kernel) tyX5 tyX5_ok nmX5 hown hC.K hP hD hS 0 rfl rfl 1 (by decide) (hts (.fieldLink RX5 15 "MotionPost$Plan" "kinds" "[I") (by decide +kernel)) (fun _ h9 => h9) rfl hnm rfl (by decide +kernel) (rfl) rfl (Nat.le_of_ble_eq_true rfl) dX5_init_15 (fun H locs hP hD hS => ?_)
  have hP : PP G ((([(h, .inr (4, [.ref q_1, .ref q_2, .null, .null, .int (nI (0)), .int (nI (0))]))] ++ [(q_1, .inl (cI G, 4, .inl (fun z9 => iI ((fun _ => 0) z9))))]) ++ [(q_2, .inl (cI G, 4, .inl (fun z9 => iI ((fun _ => 0) z9))))])) H := hP
  have hD : va_D A ((([(h, .inr (4, [.ref q_1, .ref q_2, .null, .null, .int (nI (0)), .int (nI (0))]))] ++ [(q_1, .inl (cI G, 4, .inl (fun z9 => iI ((fun _ => 0) z9))))]) ++ [(q_2, .inl (cI G, 4, .inl (fun z9 => iI ((fun _ => 0) z9))))])) := hD
  refine lv_aload_n hx hb dX5_init_18 rfl (lv_at hl 0 rfl) ?_
  refine va_new (D := gD G) (cl := vwCl) (tys := tyl G) (ci := 3) (fs := [.null]) (C := RX4) (T := TX4) (N := 1) hx hb hts (by decide +kernel) tyX4 tyX4_ok hown (hts (.classLink RX5 18 RX4) (by decide +kernel)) (hts (.instantiable RX4 1) (by decide +kernel)) (hts (.initialized RX4) (by decide +kernel)) hC.K hP hD hS hA rfl (fun j hj => by rcases (show j = 0 by omega) with rfl <;> rfl) (Nat.le_of_ble_eq_true rfl) (Nat.le_of_ble_eq_true rfl) dX5_init_19 (fun q_3 H hP hD hS => ?_)
  have hP : PP G (((([(h, .inr (4, [.ref q_1, .ref q_2, .null, .null, .int (nI (0)), .int (nI (0))]))] ++ [(q_1, .inl (cI G, 4, .inl (fun z9 => iI ((fun _ => 0) z9))))]) ++ [(q_2, .inl (cI G, 4, .inl (fun z9 => iI ((fun _ => 0) z9))))]) ++ [(q_3, .inr (3, [.null]))])) H := hP
  have hD : va_D A (((([(h, .inr (4, [.ref q_1, .ref q_2, .null, .null, .int (nI (0)), .int (nI (0))]))] ++ [(q_1, .inl (cI G, 4, .inl (fun z9 => iI ((fun _ => 0) z9))))]) ++ [(q_2, .inl (cI G, 4, .inl (fun z9 => iI ((fun _ => 0) z9))))]) ++ [(q_3, .inr (3, [.null]))])) := hD
  refine lv_dup hx hb dX5_init_22 rfl ?_
  refine kNewV (va_runIN (As := []) (rest := [.ref q_3, .ref h]) ⟨hx, hb, hml, hown, hts⟩ (c_X4_init q_3 (PP_r hP) ((pre_D (va_D_swap hD)).weaken (fun _ _ _ h => hLo _ h))) ⟨va_cnB 0 hts gX5_init_X4_init_n20 rfl rfl rfl (hC.nest 18 rfl) (hts (.initialized RX4) (by decide +kernel)) (by decide +kernel) ⟨Nat.le_of_ble_eq_true rfl, Nat.le_of_ble_eq_true rfl⟩, rfl, (hts (.instanceMethod yX4_init) (by decide +kernel))⟩ (preS hC hS hLo) rfl rfl hl.1 rfl (lv_room (Nat.le_of_ble_eq_true rfl)) dX5_init_23 ⟨Nat.le_of_ble_eq_true rfl, Nat.le_of_ble_eq_true rfl⟩) hP hD hS hA (fun u_4 H locs _ hP hD hS => ?_)
  have hP : PP G (((([(h, .inr (4, [.ref q_1, .ref q_2, .null, .null, .int (nI (0)), .int (nI (0))]))] ++ [(q_1, .inl (cI G, 4, .inl (fun z9 => iI ((fun _ => 0) z9))))]) ++ [(q_2, .inl (cI G, 4, .inl (fun z9 => iI ((fun _ => 0) z9))))]) ++ [(q_3, .inr (3, [.ref (u_4 0)])), (u_4 0, .inl (cI G, 64, .inl (fun z9 => iI ((fun _ => 0) z9))))])) H := hP
  have hD : va_D A (((([(h, .inr (4, [.ref q_1, .ref q_2, .null, .null, .int (nI (0)), .int (nI (0))]))] ++ [(q_1, .inl (cI G, 4, .inl (fun z9 => iI ((fun _ => 0) z9))))]) ++ [(q_2, .inl (cI G, 4, .inl (fun z9 => iI ((fun _ => 0) z9))))]) ++ [(q_3, .inr (3, [.ref (u_4 0)])), (u_4 0, .inl (cI G, 64, .inl (fun z9 => iI ((fun _ => 0) z9))))])) := hD
  refine va_putF (D := gD G) (cl := vwCl) (tys := tyl G) (ci := 4) (v := .ref q_3) (ty := .object "MotionPost$Picture") (C := RX5) (T := TX5) (N := 6) hx hb hts (by decide +kernel) tyX5 tyX5_ok nmX5 hown hC.K hP hD hS 0 rfl rfl 2 (by decide) (hts (.fieldLink RX5 21 "MotionPost$Plan" "predicted" "LMotionPost$Picture;") (by decide +kernel)) (fun _ h9 => h9) rfl hnm rfl (by decide +kernel) (rfl) rfl (Nat.le_of_ble_eq_true rfl) dX5_init_26 (fun H locs hP hD hS => ?_)
  have hP : PP G (((([(h, .inr (4, [.ref q_1, .ref q_2, .ref q_3, .null, .int (nI (0)), .int (nI (0))]))] ++ [(q_1, .inl (cI G, 4, .inl (fun z9 => iI ((fun _ => 0) z9))))]) ++ [(q_2, .inl (cI G, 4, .inl (fun z9 => iI ((fun _ => 0) z9))))]) ++ [(q_3, .inr (3, [.ref (u_4 0)])), (u_4 0, .inl (cI G, 64, .inl (fun z9 => iI ((fun _ => 0) z9))))])) H := hP
  have hD : va_D A (((([(h, .inr (4, [.ref q_1, .ref q_2, .ref q_3, .null, .int (nI (0)), .int (nI (0))]))] ++ [(q_1, .inl (cI G, 4, .inl (fun z9 => iI ((fun _ => 0) z9))))]) ++ [(q_2, .inl (cI G, 4, .inl (fun z9 => iI ((fun _ => 0) z9))))]) ++ [(q_3, .inr (3, [.ref (u_4 0)])), (u_4 0, .inl (cI G, 64, .inl (fun z9 => iI ((fun _ => 0) z9))))])) := hD
  refine lv_aload_n hx hb dX5_init_29 rfl (lv_at hl 0 rfl) ?_
  refine lv_bipush (v := nI (64)) hx hb dX5_init_30 (by decide) ?_
  refine gNewA (t0 := 0) (atype := .int) (n := nI 64) (cX := cI G) (ty := .int) (a0 := (64, .inl (fun z9 => iI ((fun _ => 0) z9)))) hx hb (hts (.arrayClass .int) (by decide +kernel)) rfl rfl hC.K hP hD hS hA (cell0_i 64) (by decide) (by decide +kernel) (by decide +kernel) (Nat.le_of_ble_eq_true rfl) (Nat.le_of_ble_eq_true rfl) dX5_init_32 (fun q_5 H hP hD hS => ?_)
  have hP : PP G ((((([(h, .inr (4, [.ref q_1, .ref q_2, .ref q_3, .null, .int (nI (0)), .int (nI (0))]))] ++ [(q_1, .inl (cI G, 4, .inl (fun z9 => iI ((fun _ => 0) z9))))]) ++ [(q_2, .inl (cI G, 4, .inl (fun z9 => iI ((fun _ => 0) z9))))]) ++ [(q_3, .inr (3, [.ref (u_4 0)])), (u_4 0, .inl (cI G, 64, .inl (fun z9 => iI ((fun _ => 0) z9))))]) ++ [(q_5, .inl (cI G, 64, .inl (fun z9 => iI ((fun _ => 0) z9))))])) H := hP
  have hD : va_D A ((((([(h, .inr (4, [.ref q_1, .ref q_2, .ref q_3, .null, .int (nI (0)), .int (nI (0))]))] ++ [(q_1, .inl (cI G, 4, .inl (fun z9 => iI ((fun _ => 0) z9))))]) ++ [(q_2, .inl (cI G, 4, .inl (fun z9 => iI ((fun _ => 0) z9))))]) ++ [(q_3, .inr (3, [.ref (u_4 0)])), (u_4 0, .inl (cI G, 64, .inl (fun z9 => iI ((fun _ => 0) z9))))]) ++ [(q_5, .inl (cI G, 64, .inl (fun z9 => iI ((fun _ => 0) z9))))])) := hD
  refine va_putF (D := gD G) (cl := vwCl) (tys := tyl G) (ci := 4) (v := .ref q_5) (ty := .array .int) (C := RX5) (T := TX5) (N := 6) hx hb hts (by decide +kernel) tyX5 tyX5_ok nmX5 hown hC.K hP hD hS 0 rfl rfl 3 (by decide) (hts (.fieldLink RX5 25 "MotionPost$Plan" "differences" "[I") (by decide +kernel)) (fun _ h9 => h9) rfl hnm rfl (by decide +kernel) (rfl) rfl (Nat.le_of_ble_eq_true rfl) dX5_init_34 (fun H locs hP hD hS => ?_)
  have hP : PP G ((((([(h, .inr (4, [.ref q_1, .ref q_2, .ref q_3, .ref q_5, .int (nI (0)), .int (nI (0))]))] ++ [(q_1, .inl (cI G, 4, .inl (fun z9 => iI ((fun _ => 0) z9))))]) ++ [(q_2, .inl (cI G, 4, .inl (fun z9 => iI ((fun _ => 0) z9))))]) ++ [(q_3, .inr (3, [.ref (u_4 0)])), (u_4 0, .inl (cI G, 64, .inl (fun z9 => iI ((fun _ => 0) z9))))]) ++ [(q_5, .inl (cI G, 64, .inl (fun z9 => iI ((fun _ => 0) z9))))])) H := hP
  have hD : va_D A ((((([(h, .inr (4, [.ref q_1, .ref q_2, .ref q_3, .ref q_5, .int (nI (0)), .int (nI (0))]))] ++ [(q_1, .inl (cI G, 4, .inl (fun z9 => iI ((fun _ => 0) z9))))]) ++ [(q_2, .inl (cI G, 4, .inl (fun z9 => iI ((fun _ => 0) z9))))]) ++ [(q_3, .inr (3, [.ref (u_4 0)])), (u_4 0, .inl (cI G, 64, .inl (fun z9 => iI ((fun _ => 0) z9))))]) ++ [(q_5, .inl (cI G, 64, .inl (fun z9 => iI ((fun _ => 0) z9))))])) := hD
  refine lv_aload_n hx hb dX5_init_37 rfl (lv_at hl 0 rfl) ?_
  refine lv_iconst (v := iI (-1)) hx hb dX5_init_38 (by decide) ?_
  refine va_put (D := gD G) (cl := vwCl) (tys := tyl G) (ci := 4) (v := .int (iI (-1))) (ty := .int) (C := RX5) (T := TX5) (N := 6) hx hb hts (by decide +kernel) tyX5 tyX5_ok nmX5 hown hC.K hP hD hS 0 rfl rfl 4 (by decide) (hts (.fieldLink RX5 28 "MotionPost$Plan" "coarseness" "I") (by decide +kernel)) (fun _ h9 => h9) rfl (by decide +kernel) (rfl) rfl (Nat.le_of_ble_eq_true rfl) dX5_init_39 (fun H locs hP hD hS => ?_)
  have hP : PP G ((((([(h, .inr (4, [.ref q_1, .ref q_2, .ref q_3, .ref q_5, .int (iI (-1)), .int (nI (0))]))] ++ [(q_1, .inl (cI G, 4, .inl (fun z9 => iI ((fun _ => 0) z9))))]) ++ [(q_2, .inl (cI G, 4, .inl (fun z9 => iI ((fun _ => 0) z9))))]) ++ [(q_3, .inr (3, [.ref (u_4 0)])), (u_4 0, .inl (cI G, 64, .inl (fun z9 => iI ((fun _ => 0) z9))))]) ++ [(q_5, .inl (cI G, 64, .inl (fun z9 => iI ((fun _ => 0) z9))))])) H := hP
  have hD : va_D A ((((([(h, .inr (4, [.ref q_1, .ref q_2, .ref q_3, .ref q_5, .int (iI (-1)), .int (nI (0))]))] ++ [(q_1, .inl (cI G, 4, .inl (fun z9 => iI ((fun _ => 0) z9))))]) ++ [(q_2, .inl (cI G, 4, .inl (fun z9 => iI ((fun _ => 0) z9))))]) ++ [(q_3, .inr (3, [.ref (u_4 0)])), (u_4 0, .inl (cI G, 64, .inl (fun z9 => iI ((fun _ => 0) z9))))]) ++ [(q_5, .inl (cI G, 64, .inl (fun z9 => iI ((fun _ => 0) z9))))])) := hD
  refine lv_aload_n hx hb dX5_init_42 rfl (lv_at hl 0 rfl) ?_
  refine lv_iconst (v := nI (0)) hx hb dX5_init_43 (by decide) ?_
  refine va_put (D := gD G) (cl := vwCl) (tys := tyl G) (ci := 4) (v := .int (nI (0))) (ty := .int) (C := RX5) (T := TX5) (N := 6) hx hb hts (by decide +kernel) tyX5 tyX5_ok nmX5 hown hC.K hP hD hS 0 rfl rfl 5 (by decide) (hts (.fieldLink RX5 32 "MotionPost$Plan" "bits" "I") (by decide +kernel)) (fun _ h9 => h9) rfl (by decide +kernel) (rfl) rfl (Nat.le_of_ble_eq_true rfl) dX5_init_44 (fun H locs hP hD hS => ?_)
  have hP : PP G ((((([(h, .inr (4, [.ref q_1, .ref q_2, .ref q_3, .ref q_5, .int (iI (-1)), .int (nI (0))]))] ++ [(q_1, .inl (cI G, 4, .inl (fun z9 => iI ((fun _ => 0) z9))))]) ++ [(q_2, .inl (cI G, 4, .inl (fun z9 => iI ((fun _ => 0) z9))))]) ++ [(q_3, .inr (3, [.ref (u_4 0)])), (u_4 0, .inl (cI G, 64, .inl (fun z9 => iI ((fun _ => 0) z9))))]) ++ [(q_5, .inl (cI G, 64, .inl (fun z9 => iI ((fun _ => 0) z9))))])) H := hP
  have hD : va_D A ((((([(h, .inr (4, [.ref q_1, .ref q_2, .ref q_3, .ref q_5, .int (iI (-1)), .int (nI (0))]))] ++ [(q_1, .inl (cI G, 4, .inl (fun z9 => iI ((fun _ => 0) z9))))]) ++ [(q_2, .inl (cI G, 4, .inl (fun z9 => iI ((fun _ => 0) z9))))]) ++ [(q_3, .inr (3, [.ref (u_4 0)])), (u_4 0, .inl (cI G, 64, .inl (fun z9 => iI ((fun _ => 0) z9))))]) ++ [(q_5, .inl (cI G, 64, .inl (fun z9 => iI ((fun _ => 0) z9))))])) := hD
  refine W.widen (k := 5) (n := 137) (by omega) (by omega) ?_
  exact xNv (G := G) (post := (fun (u : Nat → Nat) => True)) (w1 := (fun (u : Nat → Nat) => [(h, .inr (4, [.ref (u 0), .ref (u 1), .ref (u 2), .ref (u 4), .int (iI (-1)), .int (nI (0))])), (u 0, .inl (cI G, 4, .inl (fun z9 => nI ((fun _ => 0) z9)))), (u 1, .inl (cI G, 4, .inl (fun z9 => nI ((fun _ => 0) z9)))), (u 2, .inr (3, [.ref (u 3)])), (u 3, .inl (cI G, 64, .inl (fun z9 => iI ((fun _ => 0) z9)))), (u 4, .inl (cI G, 64, .inl (fun z9 => iI ((fun _ => 0) z9))))])) (fun i9 => (([q_1, q_2, q_3, u_4 0, q_5] : List Nat).getD i9 0)) hx hb hr hlocks hP hD hS trivial dX5_init_47

set_option maxHeartbeats 4000000 in
set_option maxRecDepth 100000 in
theorem c_X0_init {l : Launch} {G : GT} {H0 : Heap} (h : Nat)  (hP0 : PP G ([(h, .inr (0, [.null, .int (nI (0))]))]) H0) (hB0 : va_D (lo G) ([(h, .inr (0, [.null, .int (nI (0))]))])) : Met l yX0_init wsX0_init ({ frames := 1, cells := 1, slots := 166, locals := 20 } : Room) (pcG G [.ref h] H0) (qNv G (fun (u : Nat → Nat) => True) (fun (u : Nat → Nat) => [(h, .inr (0, [.ref (u 0), .int (nI (0))])), (u 0, .inl (cZ G, 166, .inl (fun _ => 0)))]) ([(h, .inr (0, [.null, .int (nI (0))]))]) H0) 1 166 (va_A ([(h, .inr (0, [.null, .int (nI (0))]))]) H0.size) := by
  refine enter (cc := cX0_init) (maxL := 1) (ret := none) (own := RX0) (lv := [(0, .ref h)]) (by decide) rfl rfl rfl (Nat.le_of_ble_eq_true rfl) ?_
  intro pg ev s m below meth c hx hb hr hts hown hlocks hml hnm hH hC ls hl
  subst hH
  have hLo := va_freeB hB0 hC.2.2.2.1
  have hD := hB0.self (sz := s.heap.size)
  have hS : va_S (va_A ([(h, .inr (0, [.null, .int (nI (0))]))]) s.heap.size) s.heap s.heap [] := va_S.rf
  unfold qNv
  generalize hAe : va_A ([(h, .inr (0, [.null, .int (nI (0))]))]) s.heap.size = A at hD hLo hS ⊢
  have hA : ∀ q, s.heap.size ≤ q → A q := fun q h => by rw [← hAe]; exact Or.inr h
  generalize ([] : List Loc) = locs at hS ⊢
  have hP := hP0
  refine lv_aload_n hx hb dX0_init_0 rfl (lv_at hl 0 rfl) ?_
  refine W.objInit hx hb hown (hts (.methodLink RX0 3 objectInit) (by decide +kernel)) (hts (.instanceMethod objectInit) (by decide +kernel)) (hts (.code objectInit ⟨#[0xb1]⟩ 1 none) (by decide +kernel)) rfl (by rw [hml]; exact hl.1) rfl dX0_init_1 (Nat.le_of_ble_eq_true rfl) (Nat.le_of_ble_eq_true rfl) ?_
  refine W.eq (g2 := F0 m 4 ls []) rfl ?_
  refine lv_aload_n hx hb dX0_init_4 rfl (lv_at hl 0 rfl) ?_
  refine lv_sipush (v := nI (166)) hx hb dX0_init_5 (by decide) ?_
  refine gNewA (t0 := 1) (atype := .boolean) (n := nI 166) (cX := cZ G) (ty := .boolean) (a0 := (166, .inl (fun _ => 0))) hx hb (hts (.arrayClass .boolean) (by decide +kernel)) rfl rfl hC.K hP hD hS hA (cell0_z 166) (by decide) (by decide +kernel) (by decide +kernel) (Nat.le_of_ble_eq_true rfl) (Nat.le_of_ble_eq_true rfl) dX0_init_8 (fun q_1 H hP hD hS => ?_)
  have hP : PP G (([(h, .inr (0, [.null, .int (nI (0))]))] ++ [(q_1, .inl (cZ G, 166, .inl (fun _ => 0)))])) H := hP
  have hD : va_D A (([(h, .inr (0, [.null, .int (nI (0))]))] ++ [(q_1, .inl (cZ G, 166, .inl (fun _ => 0)))])) := hD
  refine va_putF (D := gD G) (cl := vwCl) (tys := tyl G) (ci := 0) (v := .ref q_1) (ty := .array .boolean) (C := RX0) (T := TX0) (N := 2) hx hb hts (by decide +kernel) tyX0 tyX0_ok nmX0 hown hC.K hP hD hS 0 rfl rfl 0 (by decide) (hts (.fieldLink RX0 9 "MotionPost$BitRow" "bits" "[Z") (by decide +kernel)) (fun _ h9 => h9) rfl hnm rfl (by decide +kernel) (rfl) rfl (Nat.le_of_ble_eq_true rfl) dX0_init_10 (fun H locs hP hD hS => ?_)
  have hP : PP G (([(h, .inr (0, [.ref q_1, .int (nI (0))]))] ++ [(q_1, .inl (cZ G, 166, .inl (fun _ => 0)))])) H := hP
  have hD : va_D A (([(h, .inr (0, [.ref q_1, .int (nI (0))]))] ++ [(q_1, .inl (cZ G, 166, .inl (fun _ => 0)))])) := hD
  refine lv_aload_n hx hb dX0_init_13 rfl (lv_at hl 0 rfl) ?_
  refine lv_iconst (v := nI (0)) hx hb dX0_init_14 (by decide) ?_
  refine va_put (D := gD G) (cl := vwCl) (tys := tyl G) (ci := 0) (v := .int (nI (0))) (ty := .int) (C := RX0) (T := TX0) (N := 2) hx hb hts (by decide +kernel) tyX0 tyX0_ok nmX0 hown hC.K hP hD hS 0 rfl rfl 1 (by decide) (hts (.fieldLink RX0 15 "MotionPost$BitRow" "length" "I") (by decide +kernel)) (fun _ h9 => h9) rfl (by decide +kernel) (rfl) rfl (Nat.le_of_ble_eq_true rfl) dX0_init_15 (fun H locs hP hD hS => ?_)
  have hP : PP G (([(h, .inr (0, [.ref q_1, .int (nI (0))]))] ++ [(q_1, .inl (cZ G, 166, .inl (fun _ => 0)))])) H := hP
  have hD : va_D A (([(h, .inr (0, [.ref q_1, .int (nI (0))]))] ++ [(q_1, .inl (cZ G, 166, .inl (fun _ => 0)))])) := hD
  refine W.widen (k := 1) (n := 166) (by omega) (by omega) ?_
  exact xNv (G := G) (post := (fun (u : Nat → Nat) => True)) (w1 := (fun (u : Nat → Nat) => [(h, .inr (0, [.ref (u 0), .int (nI (0))])), (u 0, .inl (cZ G, 166, .inl (fun _ => 0)))])) (fun i9 => (([q_1] : List Nat).getD i9 0)) hx hb hr hlocks hP hD hS trivial dX0_init_18

set_option maxHeartbeats 4000000 in
set_option maxRecDepth 100000 in
theorem c_X1_init {l : Launch} {G : GT} {H0 : Heap} (h : Nat)  (hP0 : PP G ([(h, .inr (1, [.null, .int (nI (0))]))]) H0) (hB0 : va_D (lo G) ([(h, .inr (1, [.null, .int (nI (0))]))])) : Met l yX1_init wsX1_init ({ frames := 1, cells := 1, slots := 80, locals := 20 } : Room) (pcG G [.ref h] H0) (qNv G (fun (u : Nat → Nat) => True) (fun (u : Nat → Nat) => [(h, .inr (1, [.ref (u 0), .int (nI (0))])), (u 0, .inl (cC G, 80, .inl (fun z9 => nI ((fun _ => 0) z9))))]) ([(h, .inr (1, [.null, .int (nI (0))]))]) H0) 1 80 (va_A ([(h, .inr (1, [.null, .int (nI (0))]))]) H0.size) := by
  refine enter (cc := cX1_init) (maxL := 1) (ret := none) (own := RX1) (lv := [(0, .ref h)]) (by decide) rfl rfl rfl (Nat.le_of_ble_eq_true rfl) ?_
  intro pg ev s m below meth c hx hb hr hts hown hlocks hml hnm hH hC ls hl
  subst hH
  have hLo := va_freeB hB0 hC.2.2.2.1
  have hD := hB0.self (sz := s.heap.size)
  have hS : va_S (va_A ([(h, .inr (1, [.null, .int (nI (0))]))]) s.heap.size) s.heap s.heap [] := va_S.rf
  unfold qNv
  generalize hAe : va_A ([(h, .inr (1, [.null, .int (nI (0))]))]) s.heap.size = A at hD hLo hS ⊢
  have hA : ∀ q, s.heap.size ≤ q → A q := fun q h => by rw [← hAe]; exact Or.inr h
  generalize ([] : List Loc) = locs at hS ⊢
  have hP := hP0
  refine lv_aload_n hx hb dX1_init_0 rfl (lv_at hl 0 rfl) ?_
  refine W.objInit hx hb hown (hts (.methodLink RX1 3 objectInit) (by decide +kernel)) (hts (.instanceMethod objectInit) (by decide +kernel)) (hts (.code objectInit ⟨#[0xb1]⟩ 1 none) (by decide +kernel)) rfl (by rw [hml]; exact hl.1) rfl dX1_init_1 (Nat.le_of_ble_eq_true rfl) (Nat.le_of_ble_eq_true rfl) ?_
  refine W.eq (g2 := F0 m 4 ls []) rfl ?_
  refine lv_aload_n hx hb dX1_init_4 rfl (lv_at hl 0 rfl) ?_
  refine lv_bipush (v := nI (80)) hx hb dX1_init_5 (by decide) ?_
  refine gNewA (t0 := 2) (atype := .char) (n := nI 80) (cX := cC G) (ty := .char) (a0 := (80, .inl (fun z9 => nI ((fun _ => 0) z9)))) hx hb (hts (.arrayClass .char) (by decide +kernel)) rfl rfl hC.K hP hD hS hA (cell0_c 80) (by decide) (by decide +kernel) (by decide +kernel) (Nat.le_of_ble_eq_true rfl) (Nat.le_of_ble_eq_true rfl) dX1_init_7 (fun q_1 H hP hD hS => ?_)
  have hP : PP G (([(h, .inr (1, [.null, .int (nI (0))]))] ++ [(q_1, .inl (cC G, 80, .inl (fun z9 => nI ((fun _ => 0) z9))))])) H := hP
  have hD : va_D A (([(h, .inr (1, [.null, .int (nI (0))]))] ++ [(q_1, .inl (cC G, 80, .inl (fun z9 => nI ((fun _ => 0) z9))))])) := hD
  refine va_putF (D := gD G) (cl := vwCl) (tys := tyl G) (ci := 1) (v := .ref q_1) (ty := .array .char) (C := RX1) (T := TX1) (N := 2) hx hb hts (by decide +kernel) tyX1 tyX1_ok nmX1 hown hC.K hP hD hS 0 rfl rfl 0 (by decide) (hts (.fieldLink RX1 9 "MotionPost$CommandText" "signs" "[C") (by decide +kernel)) (fun _ h9 => h9) rfl hnm rfl (by decide +kernel) (rfl) rfl (Nat.le_of_ble_eq_true rfl) dX1_init_9 (fun H locs hP hD hS => ?_)
  have hP : PP G (([(h, .inr (1, [.ref q_1, .int (nI (0))]))] ++ [(q_1, .inl (cC G, 80, .inl (fun z9 => nI ((fun _ => 0) z9))))])) H := hP
  have hD : va_D A (([(h, .inr (1, [.ref q_1, .int (nI (0))]))] ++ [(q_1, .inl (cC G, 80, .inl (fun z9 => nI ((fun _ => 0) z9))))])) := hD
  refine lv_aload_n hx hb dX1_init_12 rfl (lv_at hl 0 rfl) ?_
  refine lv_iconst (v := nI (0)) hx hb dX1_init_13 (by decide) ?_
  refine va_put (D := gD G) (cl := vwCl) (tys := tyl G) (ci := 1) (v := .int (nI (0))) (ty := .int) (C := RX1) (T := TX1) (N := 2) hx hb hts (by decide +kernel) tyX1 tyX1_ok nmX1 hown hC.K hP hD hS 0 rfl rfl 1 (by decide) (hts (.fieldLink RX1 15 "MotionPost$CommandText" "length" "I") (by decide +kernel)) (fun _ h9 => h9) rfl (by decide +kernel) (rfl) rfl (Nat.le_of_ble_eq_true rfl) dX1_init_14 (fun H locs hP hD hS => ?_)
  have hP : PP G (([(h, .inr (1, [.ref q_1, .int (nI (0))]))] ++ [(q_1, .inl (cC G, 80, .inl (fun z9 => nI ((fun _ => 0) z9))))])) H := hP
  have hD : va_D A (([(h, .inr (1, [.ref q_1, .int (nI (0))]))] ++ [(q_1, .inl (cC G, 80, .inl (fun z9 => nI ((fun _ => 0) z9))))])) := hD
  refine W.widen (k := 1) (n := 80) (by omega) (by omega) ?_
  exact xNv (G := G) (post := (fun (u : Nat → Nat) => True)) (w1 := (fun (u : Nat → Nat) => [(h, .inr (1, [.ref (u 0), .int (nI (0))])), (u 0, .inl (cC G, 80, .inl (fun z9 => nI ((fun _ => 0) z9))))])) (fun i9 => (([q_1] : List Nat).getD i9 0)) hx hb hr hlocks hP hD hS trivial dX1_init_17

