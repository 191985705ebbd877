set_option maxHeartbeats 4000000 in
set_option maxRecDepth 100000 in
theorem c_X9_in {l : Launch} {G : GT} {H0 : Heap} (v lw hg : Int32)  : Met l yX9_in wsX9_in ({ frames := 0, cells := 0, slots := 0, locals := 0 } : Room) (pcG G [.int (v), .int (lw), .int (hg)] H0) (qPi (bI (Int32.toInt lw ≤ Int32.toInt v ∧ Int32.toInt v ≤ Int32.toInt hg)) H0) 0 0 noF := by
  refine enter (cc := cX9_in) (maxL := 3) (ret := some .boolean) (own := RX9) (lv := [(0, .int (v)), (1, .int (lw)), (2, .int (hg))]) (by decide) rfl rfl rfl (Nat.le_of_ble_eq_true rfl) ?_
  intro pg ev s m below meth c hx hb hr hts hown hlocks hml hnm hH hC ls hl
  subst hH
  have hLo : ∀ q, noF q → lo G q := fun _ h => h.elim
  have hS : va_S noF s.heap s.heap [] := va_S.rf
  generalize ([] : List Loc) = locs at hS ⊢
  have hq1 := @Int32.lt_iff_toInt_lt
  have hq2 := @Int32.le_iff_toInt_le
  refine lv_iload_n hx hb dX9_in_0 rfl (lv_at hl 0 rfl) ?_
  refine lv_iload_n hx hb dX9_in_1 rfl (lv_at hl 1 rfl) ?_
  refine lv_icmp_lt (tgt := 14) hx hb dX9_in_2 (by decide) (fun c_1 => ?_) (fun c_1 => ?_)
  · have f_2 : v < lw := c_1
    refine lv_iconst (v := nI (0)) hx hb dX9_in_14 (by decide) ?_
    exact xPi hx hb hr hlocks hS (by exact (by first | exact (bI_t (by simp only [Int32.lt_iff_toInt_lt] at *; omega)).symm | exact (bI_f (by simp only [Int32.lt_iff_toInt_lt] at *; omega)).symm)) (by exact rfl) dX9_in_15
  · have f_3 : ¬ v < lw := c_1
    refine lv_iload_n hx hb dX9_in_5 rfl (lv_at hl 0 rfl) ?_
    refine lv_iload_n hx hb dX9_in_6 rfl (lv_at hl 2 rfl) ?_
    refine lv_icmp_gt (tgt := 14) hx hb dX9_in_7 (by decide) (fun c_4 => ?_) (fun c_4 => ?_)
    · have f_5 : hg < v := c_4
      refine lv_iconst (v := nI (0)) hx hb dX9_in_14 (by decide) ?_
      exact xPi hx hb hr hlocks hS (by exact (by first | exact (bI_t (by simp only [Int32.lt_iff_toInt_lt] at *; omega)).symm | exact (bI_f (by simp only [Int32.lt_iff_toInt_lt] at *; omega)).symm)) (by exact rfl) dX9_in_15
    · have f_6 : ¬ hg < v := c_4
      refine lv_iconst (v := nI (1)) hx hb dX9_in_10 (by decide) ?_
      refine lv_goto (tgt := 15) hx hb dX9_in_11 (by decide) ?_
      exact xPi hx hb hr hlocks hS (by exact (by first | exact (bI_t (by simp only [Int32.lt_iff_toInt_lt] at *; omega)).symm | exact (bI_f (by simp only [Int32.lt_iff_toInt_lt] at *; omega)).symm)) (by exact rfl) dX9_in_15

set_option maxHeartbeats 4000000 in
set_option maxRecDepth 100000 in
theorem c_X9_isPixel {l : Launch} {G : GT} {H0 : Heap} (x : Int32)  : Met l yX9_isPixel wsX9_isPixel ({ frames := 1, cells := 0, slots := 0, locals := 22 } : Room) (pcG G [.int (x)] H0) (qPi (bI (0 ≤ Int32.toInt x ∧ Int32.toInt x ≤ 63)) H0) 0 0 noF := by
  refine enter (cc := cX9_isPixel) (maxL := 1) (ret := some .boolean) (own := RX9) (lv := [(0, .int (x))]) (by decide) rfl rfl rfl (Nat.le_of_ble_eq_true rfl) ?_
  intro pg ev s m below meth c hx hb hr hts hown hlocks hml hnm hH hC ls hl
  subst hH
  have hLo : ∀ q, noF q → lo G q := fun _ h => h.elim
  have hS : va_S noF s.heap s.heap [] := va_S.rf
  generalize ([] : List Loc) = locs at hS ⊢
  refine lv_iload_n hx hb dX9_isPixel_0 rfl (lv_at hl 0 rfl) ?_
  refine lv_iconst (v := nI (0)) hx hb dX9_isPixel_1 (by decide) ?_
  refine lv_bipush (v := nI (63)) hx hb dX9_isPixel_2 (by decide) ?_
  refine kPi (va_runS (As := [.int (x), .int (nI (0)), .int (nI (63))]) (rest := []) ⟨hx, hb, hml, hown, hts⟩ (c_X9_in x (nI (0)) (nI (63))) (va_cwS 3 hts gX9_isPixel_X9_in rfl rfl rfl (by decide +kernel) ⟨Nat.le_of_ble_eq_true rfl, Nat.le_of_ble_eq_true rfl⟩) (preS hC hS hLo) rfl rfl hl.1 rfl (lv_room (Nat.le_of_ble_eq_true rfl)) dX9_isPixel_4 ⟨Nat.zero_le _, Nat.zero_le _⟩) hS (fun locs hS => ?_)
  refine topE (v' := bI (0 ≤ Int32.toInt x ∧ Int32.toInt x ≤ 63)) (bI_c Iff.rfl) ?_
  exact xPi hx hb hr hlocks hS (by exact rfl) (by exact bI_n _) dX9_isPixel_7

set_option maxHeartbeats 4000000 in
set_option maxRecDepth 100000 in
theorem c_X9_isBlock {l : Launch} {G : GT} {H0 : Heap} (x : Int32)  : Met l yX9_isBlock wsX9_isBlock ({ frames := 1, cells := 0, slots := 0, locals := 22 } : Room) (pcG G [.int (x)] H0) (qPi (bI (0 ≤ Int32.toInt x ∧ Int32.toInt x ≤ 3)) H0) 0 0 noF := by
  refine enter (cc := cX9_isBlock) (maxL := 1) (ret := some .boolean) (own := RX9) (lv := [(0, .int (x))]) (by decide) rfl rfl rfl (Nat.le_of_ble_eq_true rfl) ?_
  intro pg ev s m below meth c hx hb hr hts hown hlocks hml hnm hH hC ls hl
  subst hH
  have hLo : ∀ q, noF q → lo G q := fun _ h => h.elim
  have hS : va_S noF s.heap s.heap [] := va_S.rf
  generalize ([] : List Loc) = locs at hS ⊢
  refine lv_iload_n hx hb dX9_isBlock_0 rfl (lv_at hl 0 rfl) ?_
  refine lv_iconst (v := nI (0)) hx hb dX9_isBlock_1 (by decide) ?_
  refine lv_iconst (v := nI (3)) hx hb dX9_isBlock_2 (by decide) ?_
  refine kPi (va_runS (As := [.int (x), .int (nI (0)), .int (nI (3))]) (rest := []) ⟨hx, hb, hml, hown, hts⟩ (c_X9_in x (nI (0)) (nI (3))) (va_cwS 3 hts gX9_isBlock_X9_in rfl rfl rfl (by decide +kernel) ⟨Nat.le_of_ble_eq_true rfl, Nat.le_of_ble_eq_true rfl⟩) (preS hC hS hLo) rfl rfl hl.1 rfl (lv_room (Nat.le_of_ble_eq_true rfl)) dX9_isBlock_3 ⟨Nat.zero_le _, Nat.zero_le _⟩) hS (fun locs hS => ?_)
  refine topE (v' := bI (0 ≤ Int32.toInt x ∧ Int32.toInt x ≤ 3)) (bI_c Iff.rfl) ?_
  exact xPi hx hb hr hlocks hS (by exact rfl) (by exact bI_n _) dX9_isBlock_6

set_option maxHeartbeats 4000000 in
set_option maxRecDepth 100000 in
theorem c_X9_holds {l : Launch} {G : GT} {H0 : Heap} (mh m1 m2 m3 m4 m5 : Nat) (ss hi sl : Nat → Int) (tx : Nat → Nat) (ne : Nat → Int) (th : Int32) (kn ke le : Nat) (sp wr si on tw dn : Int32) (pl : Nat) (hpl : pl ≤ 2) (hP0 : PP G ([(mh, .inr (8, [.int (th), .ref m1, .ref m2, .int (nI (kn)), .ref m3, .int (nI (ke)), .ref m4, .int (nI (le)), .ref m5, .int (sp), .int (wr), .int (si), .int (on), .int (tw), .int (dn)])), (m1, .inl (cI G, 205, .inl (fun z9 => iI (ss z9)))), (m2, .inl (cI G, 1230, .inl (fun z9 => iI (hi z9)))), (m3, .inl (cI G, 410, .inl (fun z9 => iI (sl z9)))), (m4, .inl (cI G, 80, .inl (fun z9 => nI (tx z9)))), (m5, .inl (cI G, 128, .inl (fun z9 => iI (ne z9))))]) H0) (hB0 : va_D (lo G) ([(mh, .inr (8, [.int (th), .ref m1, .ref m2, .int (nI (kn)), .ref m3, .int (nI (ke)), .ref m4, .int (nI (le)), .ref m5, .int (sp), .int (wr), .int (si), .int (on), .int (tw), .int (dn)])), (m1, .inl (cI G, 205, .inl (fun z9 => iI (ss z9)))), (m2, .inl (cI G, 1230, .inl (fun z9 => iI (hi z9)))), (m3, .inl (cI G, 410, .inl (fun z9 => iI (sl z9)))), (m4, .inl (cI G, 80, .inl (fun z9 => nI (tx z9)))), (m5, .inl (cI G, 128, .inl (fun z9 => iI (ne z9))))])) : Met l yX9_holds wsX9_holds ({ frames := 0, cells := 0, slots := 0, locals := 0 } : Room) (pcG G [.ref mh, .int (nI (pl))] H0) (qMi G (fun (r : Int32) (u : Unit) => r = bI (pl = 0)) (fun (u : Unit) => [(mh, .inr (8, [.int (nI (pl)), .ref m1, .ref m2, .int (nI (kn)), .ref m3, .int (nI (ke)), .ref m4, .int (nI (le)), .ref m5, .int (sp), .int (wr), .int (si), .int (on), .int (tw), .int (dn)])), (m1, .inl (cI G, 205, .inl (fun z9 => iI (ss z9)))), (m2, .inl (cI G, 1230, .inl (fun z9 => iI (hi z9)))), (m3, .inl (cI G, 410, .inl (fun z9 => iI (sl z9)))), (m4, .inl (cI G, 80, .inl (fun z9 => nI (tx z9)))), (m5, .inl (cI G, 128, .inl (fun z9 => iI (ne z9))))]) ([(mh, .inr (8, [.int (th), .ref m1, .ref m2, .int (nI (kn)), .ref m3, .int (nI (ke)), .ref m4, .int (nI (le)), .ref m5, .int (sp), .int (wr), .int (si), .int (on), .int (tw), .int (dn)])), (m1, .inl (cI G, 205, .inl (fun z9 => iI (ss z9)))), (m2, .inl (cI G, 1230, .inl (fun z9 => iI (hi z9)))), (m3, .inl (cI G, 410, .inl (fun z9 => iI (sl z9)))), (m4, .inl (cI G, 80, .inl (fun z9 => nI (tx z9)))), (m5, .inl (cI G, 128, .inl (fun z9 => iI (ne z9))))]) H0) 0 0 (va_A ([(mh, .inr (8, [.int (th), .ref m1, .ref m2, .int (nI (kn)), .ref m3, .int (nI (ke)), .ref m4, .int (nI (le)), .ref m5, .int (sp), .int (wr), .int (si), .int (on), .int (tw), .int (dn)])), (m1, .inl (cI G, 205, .inl (fun z9 => iI (ss z9)))), (m2, .inl (cI G, 1230, .inl (fun z9 => iI (hi z9)))), (m3, .inl (cI G, 410, .inl (fun z9 => iI (sl z9)))), (m4, .inl (cI G, 80, .inl (fun z9 => nI (tx z9)))), (m5, .inl (cI G, 128, .inl (fun z9 => iI (ne z9))))]) H0.size) := by
  refine enter (cc := cX9_holds) (maxL := 2) (ret := some .boolean) (own := RX9) (lv := [(0, .ref mh), (1, .int (nI (pl)))]) (by decide) rfl rfl rfl (Nat.le_of_ble_eq_true rfl) ?_
  intro pg ev s m below meth c hx hb hr hts hown hlocks hml hnm hH hC ls hl
  subst hH
  have hLo := va_freeB hB0 hC.2.2.2.1
  have hD := hB0.self (sz := s.heap.size)
  have hS : va_S (va_A ([(mh, .inr (8, [.int (th), .ref m1, .ref m2, .int (nI (kn)), .ref m3, .int (nI (ke)), .ref m4, .int (nI (le)), .ref m5, .int (sp), .int (wr), .int (si), .int (on), .int (tw), .int (dn)])), (m1, .inl (cI G, 205, .inl (fun z9 => iI (ss z9)))), (m2, .inl (cI G, 1230, .inl (fun z9 => iI (hi z9)))), (m3, .inl (cI G, 410, .inl (fun z9 => iI (sl z9)))), (m4, .inl (cI G, 80, .inl (fun z9 => nI (tx z9)))), (m5, .inl (cI G, 128, .inl (fun z9 => iI (ne z9))))]) s.heap.size) s.heap s.heap [] := va_S.rf
  unfold qMi
  generalize hAe : va_A ([(mh, .inr (8, [.int (th), .ref m1, .ref m2, .int (nI (kn)), .ref m3, .int (nI (ke)), .ref m4, .int (nI (le)), .ref m5, .int (sp), .int (wr), .int (si), .int (on), .int (tw), .int (dn)])), (m1, .inl (cI G, 205, .inl (fun z9 => iI (ss z9)))), (m2, .inl (cI G, 1230, .inl (fun z9 => iI (hi z9)))), (m3, .inl (cI G, 410, .inl (fun z9 => iI (sl z9)))), (m4, .inl (cI G, 80, .inl (fun z9 => nI (tx z9)))), (m5, .inl (cI G, 128, .inl (fun z9 => iI (ne z9))))]) s.heap.size = A at hD hLo hS ⊢
  have hA : ∀ q, s.heap.size ≤ q → A q := fun q h => by rw [← hAe]; exact Or.inr h
  generalize ([] : List Loc) = locs at hS ⊢
  have hP := hP0
  refine lv_aload_n hx hb dX9_holds_0 rfl (lv_at hl 0 rfl) ?_
  refine lv_iload_n hx hb dX9_holds_1 rfl (lv_at hl 1 rfl) ?_
  refine va_put (D := gD G) (cl := vwCl) (tys := tyl G) (ci := 8) (v := .int (nI (pl))) (ty := .int) (C := RX9) (T := TX9) (N := 15) hx hb hts (by decide +kernel) tyX9 tyX9_ok nmX9 hown hC.K hP hD hS 0 rfl rfl 0 (by decide) (hts (.fieldLink RX9 25 "MotionPostModel" "thrown" "I") (by decide +kernel)) (fun _ h9 => h9) rfl (by decide +kernel) (rfl) rfl (Nat.le_of_ble_eq_true rfl) dX9_holds_2 (fun H locs hP hD hS => ?_)
  have hP : PP G ([(mh, .inr (8, [.int (nI (pl)), .ref m1, .ref m2, .int (nI (kn)), .ref m3, .int (nI (ke)), .ref m4, .int (nI (le)), .ref m5, .int (sp), .int (wr), .int (si), .int (on), .int (tw), .int (dn)])), (m1, .inl (cI G, 205, .inl (fun z9 => iI (ss z9)))), (m2, .inl (cI G, 1230, .inl (fun z9 => iI (hi z9)))), (m3, .inl (cI G, 410, .inl (fun z9 => iI (sl z9)))), (m4, .inl (cI G, 80, .inl (fun z9 => nI (tx z9)))), (m5, .inl (cI G, 128, .inl (fun z9 => iI (ne z9))))]) H := hP
  have hD : va_D A ([(mh, .inr (8, [.int (nI (pl)), .ref m1, .ref m2, .int (nI (kn)), .ref m3, .int (nI (ke)), .ref m4, .int (nI (le)), .ref m5, .int (sp), .int (wr), .int (si), .int (on), .int (tw), .int (dn)])), (m1, .inl (cI G, 205, .inl (fun z9 => iI (ss z9)))), (m2, .inl (cI G, 1230, .inl (fun z9 => iI (hi z9)))), (m3, .inl (cI G, 410, .inl (fun z9 => iI (sl z9)))), (m4, .inl (cI G, 80, .inl (fun z9 => nI (tx z9)))), (m5, .inl (cI G, 128, .inl (fun z9 => iI (ne z9))))]) := hD
  refine lv_iload_n hx hb dX9_holds_5 rfl (lv_at hl 1 rfl) ?_
  refine lv_if_ne (tgt := 13) hx hb dX9_holds_6 (by decide) (fun c_1 => ?_) (fun c_1 => ?_)
  · have f_2 : ¬ ((pl : Nat) : Int) = (0 : Int) := fun z => c_1 ((c_eq (nI_toInt (n := pl) (by omega)) rfl).mpr z)
    refine lv_iconst (v := nI (0)) hx hb dX9_holds_13 (by decide) ?_
    exact xMi (G := G) (post := (fun (r : Int32) (u : Unit) => r = bI (pl = 0))) (w1 := (fun (u : Unit) => [(mh, .inr (8, [.int (nI (pl)), .ref m1, .ref m2, .int (nI (kn)), .ref m3, .int (nI (ke)), .ref m4, .int (nI (le)), .ref m5, .int (sp), .int (wr), .int (si), .int (on), .int (tw), .int (dn)])), (m1, .inl (cI G, 205, .inl (fun z9 => iI (ss z9)))), (m2, .inl (cI G, 1230, .inl (fun z9 => iI (hi z9)))), (m3, .inl (cI G, 410, .inl (fun z9 => iI (sl z9)))), (m4, .inl (cI G, 80, .inl (fun z9 => nI (tx z9)))), (m5, .inl (cI G, 128, .inl (fun z9 => iI (ne z9))))])) (()) hx hb hr hlocks hP hS (by exact (by first | exact (bI_t (by omega)).symm | exact (bI_f (by omega)).symm)) (by exact rfl) dX9_holds_14
  · have f_3 : ((pl : Nat) : Int) = (0 : Int) := (c_eq (nI_toInt (n := pl) (by omega)) rfl).mp c_1
    refine lv_iconst (v := nI (1)) hx hb dX9_holds_9 (by decide) ?_
    refine lv_goto (tgt := 14) hx hb dX9_holds_10 (by decide) ?_
    exact xMi (G := G) (post := (fun (r : Int32) (u : Unit) => r = bI (pl = 0))) (w1 := (fun (u : Unit) => [(mh, .inr (8, [.int (nI (pl)), .ref m1, .ref m2, .int (nI (kn)), .ref m3, .int (nI (ke)), .ref m4, .int (nI (le)), .ref m5, .int (sp), .int (wr), .int (si), .int (on), .int (tw), .int (dn)])), (m1, .inl (cI G, 205, .inl (fun z9 => iI (ss z9)))), (m2, .inl (cI G, 1230, .inl (fun z9 => iI (hi z9)))), (m3, .inl (cI G, 410, .inl (fun z9 => iI (sl z9)))), (m4, .inl (cI G, 80, .inl (fun z9 => nI (tx z9)))), (m5, .inl (cI G, 128, .inl (fun z9 => iI (ne z9))))])) (()) hx hb hr hlocks hP hS (by exact (by first | exact (bI_t (by omega)).symm | exact (bI_f (by omega)).symm)) (by exact rfl) dX9_holds_14

set_option maxHeartbeats 4000000 in
set_option maxRecDepth 100000 in
theorem c_X9_abs {l : Launch} {G : GT} {H0 : Heap} (x : Int) (hx9 : -1000000 ≤ x ∧ x ≤ 1000000) : Met l yX9_abs wsX9_abs ({ frames := 0, cells := 0, slots := 0, locals := 0 } : Room) (pcG G [.int (iI (x))] H0) (qPi (iI ((x.natAbs : Int))) H0) 0 0 noF := by
  refine enter (cc := cX9_abs) (maxL := 1) (ret := some .int) (own := RX9) (lv := [(0, .int (iI (x)))]) (by decide) rfl rfl rfl (Nat.le_of_ble_eq_true rfl) ?_
  intro pg ev s m below meth c hx hb hr hts hown hlocks hml hnm hH hC ls hl
  subst hH
  have hLo : ∀ q, noF q → lo G q := fun _ h => h.elim
  have hS : va_S noF s.heap s.heap [] := va_S.rf
  generalize ([] : List Loc) = locs at hS ⊢
  refine lv_iload_n hx hb dX9_abs_0 rfl (lv_at hl 0 rfl) ?_
  refine lv_if_ge (tgt := 9) hx hb dX9_abs_1 (by decide) (fun c_1 => ?_) (fun c_1 => ?_)
  · have f_2 : (0 : Int) ≤ (x) := (c_le rfl (iI_toInt (by omega) (by omega))).mp c_1
    refine lv_iload_n hx hb dX9_abs_9 rfl (lv_at hl 0 rfl) ?_
    exact xPi hx hb hr hlocks hS (by exact congrArg iI (by omega)) (by exact rfl) dX9_abs_10
  · have f_3 : ¬ (0 : Int) ≤ (x) := fun z => c_1 ((c_le rfl (iI_toInt (by omega) (by omega))).mpr z)
    refine lv_iload_n hx hb dX9_abs_4 rfl (lv_at hl 0 rfl) ?_
    refine gNeg (z := iI (-(x))) hx hb dX9_abs_5 (iI_ng _) ?_
    refine lv_goto (tgt := 10) hx hb dX9_abs_6 (by decide) ?_
    exact xPi hx hb hr hlocks hS (by exact congrArg iI (by omega)) (by exact rfl) dX9_abs_10

set_option maxHeartbeats 4000000 in
set_option maxRecDepth 100000 in
theorem c_X9_edge {l : Launch} {G : GT} {H0 : Heap} (x : Int) (hx9 : -1000 ≤ x ∧ x ≤ 1000) : Met l yX9_edge wsX9_edge ({ frames := 0, cells := 0, slots := 0, locals := 0 } : Room) (pcG G [.int (iI (x))] H0) (qPi (nI (ed x)) H0) 0 0 noF := by
  refine enter (cc := cX9_edge) (maxL := 1) (ret := some .int) (own := RX9) (lv := [(0, .int (iI (x)))]) (by decide) rfl rfl rfl (Nat.le_of_ble_eq_true rfl) ?_
  intro pg ev s m below meth c hx hb hr hts hown hlocks hml hnm hH hC ls hl
  subst hH
  have hLo : ∀ q, noF q → lo G q := fun _ h => h.elim
  have hS : va_S noF s.heap s.heap [] := va_S.rf
  generalize ([] : List Loc) = locs at hS ⊢
  refine lv_iload_n hx hb dX9_edge_0 rfl (lv_at hl 0 rfl) ?_
  refine lv_if_ge (tgt := 8) hx hb dX9_edge_1 (by decide) (fun c_1 => ?_) (fun c_1 => ?_)
  · have f_2 : (0 : Int) ≤ (x) := (c_le rfl (iI_toInt (by omega) (by omega))).mp c_1
    refine lv_iload_n hx hb dX9_edge_8 rfl (lv_at hl 0 rfl) ?_
    refine lv_bipush (v := nI (7)) hx hb dX9_edge_9 (by decide) ?_
    refine lv_icmp_le (tgt := 19) hx hb dX9_edge_11 (by decide) (fun c_3 => ?_) (fun c_3 => ?_)
    · have f_4 : (x) ≤ (7 : Int) := (c_le (iI_toInt (by omega) (by omega)) (nI_toInt (n := 7) (by omega))).mp c_3
      refine lv_iload_n hx hb dX9_edge_19 rfl (lv_at hl 0 rfl) ?_
      exact xPi hx hb hr hlocks hS (by exact (by first | exact ed_lo (by omega) | exact ed_hi (by omega) | exact ed_mid (by omega) (by omega))) (by exact rfl) dX9_edge_20
    · have f_5 : ¬ (x) ≤ (7 : Int) := fun z => c_3 ((c_le (iI_toInt (by omega) (by omega)) (nI_toInt (n := 7) (by omega))).mpr z)
      refine lv_bipush (v := nI (7)) hx hb dX9_edge_14 (by decide) ?_
      refine lv_goto (tgt := 20) hx hb dX9_edge_16 (by decide) ?_
      exact xPi hx hb hr hlocks hS (by exact (by first | exact ed_lo (by omega) | exact ed_hi (by omega) | exact ed_mid (by omega) (by omega))) (by exact rfl) dX9_edge_20
  · have f_6 : ¬ (0 : Int) ≤ (x) := fun z => c_1 ((c_le rfl (iI_toInt (by omega) (by omega))).mpr z)
    refine lv_iconst (v := nI (0)) hx hb dX9_edge_4 (by decide) ?_
    refine lv_goto (tgt := 20) hx hb dX9_edge_5 (by decide) ?_
    exact xPi hx hb hr hlocks hS (by exact (by first | exact ed_lo (by omega) | exact ed_hi (by omega) | exact ed_mid (by omega) (by omega))) (by exact rfl) dX9_edge_20

set_option maxHeartbeats 4000000 in
set_option maxRecDepth 100000 in
theorem c_X9_pixel {l : Launch} {G : GT} {H0 : Heap} (b i : Nat) (hb4 : b < 4) (hi16 : i < 16) : Met l yX9_pixel wsX9_pixel ({ frames := 0, cells := 0, slots := 0, locals := 0 } : Room) (pcG G [.int (nI (b)), .int (nI (i))] H0) (qPi (nI (px b i)) H0) 0 0 noF := by
  refine enter (cc := cX9_pixel) (maxL := 2) (ret := some .int) (own := RX9) (lv := [(0, .int (nI (b))), (1, .int (nI (i)))]) (by decide) rfl rfl rfl (Nat.le_of_ble_eq_true rfl) ?_
  intro pg ev s m below meth c hx hb hr hts hown hlocks hml hnm hH hC ls hl
  subst hH
  have hLo : ∀ q, noF q → lo G q := fun _ h => h.elim
  have hS : va_S noF s.heap s.heap [] := va_S.rf
  generalize ([] : List Loc) = locs at hS ⊢
  refine lv_bipush (v := nI (8)) hx hb dX9_pixel_0 (by decide) ?_
  refine lv_iconst (v := nI (4)) hx hb dX9_pixel_2 (by decide) ?_
  refine lv_iload_n hx hb dX9_pixel_3 rfl (lv_at hl 0 rfl) ?_
  refine lv_iconst (v := nI (2)) hx hb dX9_pixel_4 (by decide) ?_
  refine gDiv (z := nI (b / 2)) hx hb dX9_pixel_5 (nI_ne0 (by omega) (by omega)) (pk_div (by omega) (by omega) (by omega)) ?_
  refine gMul (z := nI (4 * (b / 2))) hx hb dX9_pixel_6 (pk_mul _ _) ?_
  refine lv_iload_n hx hb dX9_pixel_7 rfl (lv_at hl 1 rfl) ?_
  refine lv_iconst (v := nI (4)) hx hb dX9_pixel_8 (by decide) ?_
  refine gDiv (z := nI (i / 4)) hx hb dX9_pixel_9 (nI_ne0 (by omega) (by omega)) (pk_div (by omega) (by omega) (by omega)) ?_
  refine gAdd (z := nI ((4 * (b / 2)) + (i / 4))) hx hb dX9_pixel_10 (nI_add _ _) ?_
  refine gMul (z := nI (8 * ((4 * (b / 2)) + (i / 4)))) hx hb dX9_pixel_11 (pk_mul _ _) ?_
  refine lv_iconst (v := nI (4)) hx hb dX9_pixel_12 (by decide) ?_
  refine lv_iload_n hx hb dX9_pixel_13 rfl (lv_at hl 0 rfl) ?_
  refine lv_iconst (v := nI (2)) hx hb dX9_pixel_14 (by decide) ?_
  refine gRem (z := nI (b % 2)) hx hb dX9_pixel_15 (nI_ne0 (by omega) (by omega)) (pk_rem (by omega) (by omega) (by omega)) ?_
  refine gMul (z := nI (4 * (b % 2))) hx hb dX9_pixel_16 (pk_mul _ _) ?_
  refine gAdd (z := nI ((8 * ((4 * (b / 2)) + (i / 4))) + (4 * (b % 2)))) hx hb dX9_pixel_17 (nI_add _ _) ?_
  refine lv_iload_n hx hb dX9_pixel_18 rfl (lv_at hl 1 rfl) ?_
  refine lv_iconst (v := nI (4)) hx hb dX9_pixel_19 (by decide) ?_
  refine gRem (z := nI (i % 4)) hx hb dX9_pixel_20 (nI_ne0 (by omega) (by omega)) (pk_rem (by omega) (by omega) (by omega)) ?_
  refine gAdd (z := nI (((8 * ((4 * (b / 2)) + (i / 4))) + (4 * (b % 2))) + (i % 4))) hx hb dX9_pixel_21 (nI_add _ _) ?_
  exact xPi hx hb hr hlocks hS (by exact congrArg nI (by unfold px; omega)) (by exact rfl) dX9_pixel_22

set_option maxHeartbeats 4000000 in
set_option maxRecDepth 100000 in
theorem c_X9_from {l : Launch} {G : GT} {H0 : Heap} (p : Nat) (dy dx : Int) (hp : p < 64) (hdy : -2 ≤ dy ∧ dy ≤ 2) (hdx : -2 ≤ dx ∧ dx ≤ 2) : Met l yX9_from wsX9_from ({ frames := 1, cells := 0, slots := 0, locals := 20 } : Room) (pcG G [.int (nI (p)), .int (iI (dy)), .int (iI (dx))] H0) (qPi (nI (fr p dy dx)) H0) 0 0 noF := by
  refine enter (cc := cX9_from) (maxL := 3) (ret := some .int) (own := RX9) (lv := [(0, .int (nI (p))), (1, .int (iI (dy))), (2, .int (iI (dx)))]) (by decide) rfl rfl rfl (Nat.le_of_ble_eq_true rfl) ?_
  intro pg ev s m below meth c hx hb hr hts hown hlocks hml hnm hH hC ls hl
  subst hH
  have hLo : ∀ q, noF q → lo G q := fun _ h => h.elim
  have hS : va_S noF s.heap s.heap [] := va_S.rf
  generalize ([] : List Loc) = locs at hS ⊢
  refine lv_bipush (v := nI (8)) hx hb dX9_from_0 (by decide) ?_
  refine lv_iload_n hx hb dX9_from_2 rfl (lv_at hl 0 rfl) ?_
  refine lv_bipush (v := nI (8)) hx hb dX9_from_3 (by decide) ?_
  refine gDiv (z := nI (p / 8)) hx hb dX9_from_5 (nI_ne0 (by omega) (by omega)) (pk_div (by omega) (by omega) (by omega)) ?_
  refine lv_iload_n hx hb dX9_from_6 rfl (lv_at hl 1 rfl) ?_
  refine gAdd (z := iI (((p / 8 : Nat) : Int) + (dy))) hx hb dX9_from_7 (z_add (nI_i (p / 8)) rfl) ?_
  refine kPi (va_runS (As := [.int (iI (((p / 8 : Nat) : Int) + (dy)))]) (rest := [.int (nI (8))]) ⟨hx, hb, hml, hown, hts⟩ (c_X9_edge (((p / 8 : Nat) : Int) + (dy)) (by first | assumption | omega)) (va_cwS 1 hts gX9_from_X9_edge rfl rfl rfl (by decide +kernel) ⟨Nat.le_of_ble_eq_true rfl, Nat.le_of_ble_eq_true rfl⟩) (preS hC hS hLo) rfl rfl hl.1 rfl (lv_room (Nat.le_of_ble_eq_true rfl)) dX9_from_8 ⟨Nat.zero_le _, Nat.zero_le _⟩) hS (fun locs hS => ?_)
  refine gMul (z := nI (8 * (ed (((p / 8 : Nat) : Int) + (dy))))) hx hb dX9_from_11 (pk_mul _ _) ?_
  refine lv_iload_n hx hb dX9_from_12 rfl (lv_at hl 0 rfl) ?_
  refine lv_bipush (v := nI (8)) hx hb dX9_from_13 (by decide) ?_
  refine gRem (z := nI (p % 8)) hx hb dX9_from_15 (nI_ne0 (by omega) (by omega)) (pk_rem (by omega) (by omega) (by omega)) ?_
  refine lv_iload_n hx hb dX9_from_16 rfl (lv_at hl 2 rfl) ?_
  refine gAdd (z := iI (((p % 8 : Nat) : Int) + (dx))) hx hb dX9_from_17 (z_add (nI_i (p % 8)) rfl) ?_
  refine kPi (va_runS (As := [.int (iI (((p % 8 : Nat) : Int) + (dx)))]) (rest := [.int (nI (8 * (ed (((p / 8 : Nat) : Int) + (dy)))))]) ⟨hx, hb, hml, hown, hts⟩ (c_X9_edge (((p % 8 : Nat) : Int) + (dx)) (by first | assumption | omega)) (va_cwS 1 hts gX9_from_X9_edge rfl rfl rfl (by decide +kernel) ⟨Nat.le_of_ble_eq_true rfl, Nat.le_of_ble_eq_true rfl⟩) (preS hC hS hLo) rfl rfl hl.1 rfl (lv_room (Nat.le_of_ble_eq_true rfl)) dX9_from_18 ⟨Nat.zero_le _, Nat.zero_le _⟩) hS (fun locs hS => ?_)
  refine gAdd (z := nI ((8 * (ed (((p / 8 : Nat) : Int) + (dy)))) + (ed (((p % 8 : Nat) : Int) + (dx))))) hx hb dX9_from_21 (nI_add _ _) ?_
  exact xPi hx hb hr hlocks hS (by exact rfl) (by exact rfl) dX9_from_22

set_option maxHeartbeats 4000000 in
set_option maxRecDepth 100000 in
theorem c_X9_predicted {l : Launch} {G : GT} {H0 : Heap} (mh m1 m2 m3 m4 m5 : Nat) (ss hi sl : Nat → Int) (tx : Nat → Nat) (ne : Nat → Int) (th : Int32) (kn ke le : Nat) (sp wr si on tw dn : Int32) (pc p mv : Nat) (hpc : pc ≤ 128) (hp : p < 64) (hm : mv < 25) (hP0 : PP G ([(mh, .inr (8, [.int (th), .ref m1, .ref m2, .int (nI (kn)), .ref m3, .int (nI (ke)), .ref m4, .int (nI (le)), .ref m5, .int (sp), .int (wr), .int (si), .int (on), .int (tw), .int (dn)])), (m1, .inl (cI G, 205, .inl (fun z9 => iI (ss z9)))), (m2, .inl (cI G, 1230, .inl (fun z9 => iI (hi z9)))), (m3, .inl (cI G, 410, .inl (fun z9 => iI (sl z9)))), (m4, .inl (cI G, 80, .inl (fun z9 => nI (tx z9)))), (m5, .inl (cI G, 128, .inl (fun z9 => iI (ne z9))))]) H0) : Met l yX9_predicted wsX9_predicted ({ frames := 2, cells := 0, slots := 0, locals := 42 } : Room) (pcG G [.ref mh, .int (nI (pc)), .int (nI (p)), .int (nI (mv))] H0) (qPi (iI (ss (pc + fr p (mdn mv) (mrt mv)))) H0) 0 0 noF := by
  refine enter (cc := cX9_predicted) (maxL := 4) (ret := some .int) (own := RX9) (lv := [(0, .ref mh), (1, .int (nI (pc))), (2, .int (nI (p))), (3, .int (nI (mv)))]) (by decide) rfl rfl rfl (Nat.le_of_ble_eq_true rfl) ?_
  intro pg ev s m below meth c hx hb hr hts hown hlocks hml hnm hH hC ls hl
  subst hH
  have hLo : ∀ q, noF q → lo G q := fun _ h => h.elim
  have hS : va_S noF s.heap s.heap [] := va_S.rf
  generalize ([] : List Loc) = locs at hS ⊢
  have hP := hP0
  refine lv_aload_n hx hb dX9_predicted_0 rfl (lv_at hl 0 rfl) ?_
  refine va_get (D := gD G) (cl := vwCl) (tys := tyl G) (ci := 8) (v := .ref m1) (C := RX9) (T := TX9) (N := 15) hx hb hts (by decide +kernel) hown hC.K hP 0 rfl rfl 1 (by decide) (hts (.fieldLink RX9 7 "MotionPostModel" "s" "[I") (by decide +kernel)) (fun _ h9 => h9) rfl dX9_predicted_1 ?_
  have hmd := mdn_in hm
  have hmr := mrt_in mv
  have hfr := fr_lt p (mdn mv) (mrt mv)
  refine lv_iload_n hx hb dX9_predicted_4 rfl (lv_at hl 1 rfl) ?_
  refine lv_iload_n hx hb dX9_predicted_5 rfl (lv_at hl 2 rfl) ?_
  refine lv_iload_n hx hb dX9_predicted_6 rfl (lv_at hl 3 rfl) ?_
  refine lv_iconst (v := nI (5)) hx hb dX9_predicted_7 (by decide) ?_
  refine gDiv (z := nI (mv / 5)) hx hb dX9_predicted_8 (nI_ne0 (by omega) (by omega)) (pk_div (by omega) (by omega) (by omega)) ?_
  refine lv_iconst (v := nI (2)) hx hb dX9_predicted_9 (by decide) ?_
  refine gSub (z := iI (mdn mv)) hx hb dX9_predicted_10 (z_sub (nI_i _) (nI_i 2)) ?_
  refine lv_iload_n hx hb dX9_predicted_11 rfl (lv_at hl 3 rfl) ?_
  refine lv_iconst (v := nI (5)) hx hb dX9_predicted_12 (by decide) ?_
  refine gRem (z := nI (mv % 5)) hx hb dX9_predicted_13 (nI_ne0 (by omega) (by omega)) (pk_rem (by omega) (by omega) (by omega)) ?_
  refine lv_iconst (v := nI (2)) hx hb dX9_predicted_14 (by decide) ?_
  refine gSub (z := iI (mrt mv)) hx hb dX9_predicted_15 (z_sub (nI_i _) (nI_i 2)) ?_
  refine kPi (va_runS (As := [.int (nI (p)), .int (iI (mdn mv)), .int (iI (mrt mv))]) (rest := [.int (nI (pc)), .ref m1]) ⟨hx, hb, hml, hown, hts⟩ (c_X9_from p (mdn mv) (mrt mv) (by first | assumption | omega) (by first | assumption | omega) (by first | assumption | omega)) (va_cwS 3 hts gX9_predicted_X9_from rfl rfl rfl (by decide +kernel) ⟨Nat.le_of_ble_eq_true rfl, Nat.le_of_ble_eq_true rfl⟩) (preS hC hS hLo) rfl rfl hl.1 rfl (lv_room (Nat.le_of_ble_eq_true rfl)) dX9_predicted_16 ⟨Nat.zero_le _, Nat.zero_le _⟩) hS (fun locs hS => ?_)
  refine gAdd (z := nI (pc + (fr p (mdn mv) (mrt mv)))) hx hb dX9_predicted_19 (nI_add _ _) ?_
  refine gIald (j := pc + (fr p (mdn mv) (mrt mv))) hx hb hC.K hP 1 0 rfl rfl (rfl) (by omega) (by decide) dX9_predicted_20 ?_
  exact xPi hx hb hr hlocks hS (by exact rfl) (by exact rfl) dX9_predicted_21

set_option maxHeartbeats 4000000 in
set_option maxRecDepth 100000 in
theorem c_X9_far {l : Launch} {G : GT} {H0 : Heap} (mh m1 m2 m3 m4 m5 : Nat) (ss hi sl : Nat → Int) (tx : Nat → Nat) (ne : Nat → Int) (th : Int32) (kn ke le : Nat) (sp wr si on tw dn : Int32) (b mv : Nat) (hMR : MR ss) (hb4 : b < 4) (hm : mv < 25) (hP0 : PP G ([(mh, .inr (8, [.int (th), .ref m1, .ref m2, .int (nI (kn)), .ref m3, .int (nI (ke)), .ref m4, .int (nI (le)), .ref m5, .int (sp), .int (wr), .int (si), .int (on), .int (tw), .int (dn)])), (m1, .inl (cI G, 205, .inl (fun z9 => iI (ss z9)))), (m2, .inl (cI G, 1230, .inl (fun z9 => iI (hi z9)))), (m3, .inl (cI G, 410, .inl (fun z9 => iI (sl z9)))), (m4, .inl (cI G, 80, .inl (fun z9 => nI (tx z9)))), (m5, .inl (cI G, 128, .inl (fun z9 => iI (ne z9))))]) H0) : Met l yX9_far wsX9_far ({ frames := 3, cells := 0, slots := 0, locals := 65 } : Room) (pcG G [.ref mh, .int (nI (b)), .int (nI (mv))] H0) (qPi (iI (DIST (dS ss) (tS ss) b mv)) H0) 0 0 noF := by
  refine enter (cc := cX9_far) (maxL := 6) (ret := some .int) (own := RX9) (lv := [(0, .ref mh), (1, .int (nI (b))), (2, .int (nI (mv)))]) (by decide) rfl rfl rfl (Nat.le_of_ble_eq_true rfl) ?_
  intro pg ev s m below meth c hx hb hr hts hown hlocks hml hnm hH hC ls hl
  subst hH
  have hLo : ∀ q, noF q → lo G q := fun _ h => h.elim
  have hS : va_S noF s.heap s.heap [] := va_S.rf
  generalize ([] : List Loc) = locs at hS ⊢
  have hP := hP0
  refine lv_iconst (v := nI (0)) hx hb dX9_far_0 (by decide) ?_
  refine lv_istore_n (lv' := [(3, .int (nI (0))), (0, .ref mh), (1, .int (nI (b))), (2, .int (nI (mv)))]) hx hb dX9_far_1 rfl hl (by decide) rfl (fun ls hl => ?_)
  refine lv_iconst (v := nI (0)) hx hb dX9_far_2 (by decide) ?_
  refine lv_istore (lv' := [(4, .int (nI (0))), (3, .int (nI (0))), (0, .ref mh), (1, .int (nI (b))), (2, .int (nI (mv)))]) hx hb dX9_far_3 hl (by decide) rfl (fun ls hl => ?_)
  have L_5 : ∀ (n_5 : Nat) (i : Nat), 16 - i < n_5 → (i ≤ 16) → ∀ (locs : List Loc) (ls : Array Slot), va_S noF s.heap s.heap locs → lv_has ls 6 [(0, .ref mh), (1, .int (nI (b))), (2, .int (nI (mv))), (3, .int (iI (sZ (DT (dS ss) (tS ss) b mv) i))), (4, .int (nI (i)))] → W pg l ev ({ frames := 3, cells := 0, slots := 0, locals := 65 } : Room) s m (([.ref mh, .int (nI (b)), .int (nI (mv))] : List Value).toArray) below meth c s.heap locs 0 0 (MQ below (qPi (iI (DIST (dS ss) (tS ss) b mv)) s.heap) (([.ref mh, .int (nI (b)), .int (nI (mv))] : List Value).toArray) s 0 0 noF) (F0 m 5 ls []) := by
    intro n_5
    induction n_5 with
    | zero => intro i hn; exact absurd hn (Nat.not_lt_zero _)
    | succ n_5 ih_5 =>
      intro i hn_5 hi9 locs ls hS hl
      refine lv_iload hx hb dX9_far_5 (lv_at hl 4 rfl) ?_
      refine lv_bipush (v := nI (16)) hx hb dX9_far_7 (by decide) ?_
      refine lv_icmp_ge (tgt := 51) hx hb dX9_far_9 (by decide) (fun c_1 => ?_) (fun c_1 => ?_)
      · have f_2 : (16 : Int) ≤ ((i : Nat) : Int) := (c_le (nI_toInt (n := 16) (by omega)) (nI_toInt (n := i) (by omega))).mp c_1
        have e_i : i = 16 := by omega
        replace e_i := e_i.symm
        subst e_i
        refine lv_iload_n hx hb dX9_far_51 rfl (lv_at hl 3 rfl) ?_
        exact xPi hx hb hr hlocks hS (by exact rfl) (by exact rfl) dX9_far_52
      · have f_3 : ¬ (16 : Int) ≤ ((i : Nat) : Int) := fun z => c_1 ((c_le (nI_toInt (n := 16) (by omega)) (nI_toInt (n := i) (by omega))).mpr z)
        refine lv_iload_n hx hb dX9_far_12 rfl (lv_at hl 1 rfl) ?_
        refine lv_iload hx hb dX9_far_13 (lv_at hl 4 rfl) ?_
        refine kPi (va_runS (As := [.int (nI (b)), .int (nI (i))]) (rest := []) ⟨hx, hb, hml, hown, hts⟩ (c_X9_pixel b i (by first | assumption | omega) (by first | assumption | omega)) (va_cwS 2 hts gX9_far_X9_pixel rfl rfl rfl (by decide +kernel) ⟨Nat.le_of_ble_eq_true rfl, Nat.le_of_ble_eq_true rfl⟩) (preS hC hS hLo) rfl rfl hl.1 rfl (lv_room (Nat.le_of_ble_eq_true rfl)) dX9_far_15 ⟨Nat.zero_le _, Nat.zero_le _⟩) hS (fun locs hS => ?_)
        refine lv_istore (lv' := [(5, .int (nI (px b i))), (0, .ref mh), (1, .int (nI (b))), (2, .int (nI (mv))), (3, .int (iI (sZ (DT (dS ss) (tS ss) b mv) i))), (4, .int (nI (i)))]) hx hb dX9_far_18 hl (by decide) rfl (fun ls hl => ?_)
        have hpx := px_lt hb4 (by omega : i < 16)
        refine lv_iload_n hx hb dX9_far_20 rfl (lv_at hl 4 rfl) ?_
        refine lv_aload_n hx hb dX9_far_21 rfl (lv_at hl 1 rfl) ?_
        refine va_get (D := gD G) (cl := vwCl) (tys := tyl G) (ci := 8) (v := .ref m1) (C := RX9) (T := TX9) (N := 15) hx hb hts (by decide +kernel) hown hC.K hP 0 rfl rfl 1 (by decide) (hts (.fieldLink RX9 7 "MotionPostModel" "s" "[I") (by decide +kernel)) (fun _ h9 => h9) rfl dX9_far_22 ?_
        refine lv_iconst (v := nI (0)) hx hb dX9_far_25 (by decide) ?_
        refine lv_iload hx hb dX9_far_26 (lv_at hl 0 rfl) ?_
        refine gAdd (z := nI (px b i)) hx hb dX9_far_28 ((nI_add 0 _).trans (congrArg nI (Nat.zero_add _))) ?_
        refine gIald (j := px b i) hx hb hC.K hP 1 0 rfl rfl (rfl) (by omega) (by decide) dX9_far_29 ?_
        refine topE (v' := iI (dS ss (px b i))) (congrArg iI (dS_at hpx)) ?_
        refine lv_aload_n hx hb dX9_far_30 rfl (lv_at hl 1 rfl) ?_
        refine lv_bipush (v := nI (64)) hx hb dX9_far_31 (by decide) ?_
        refine lv_iload hx hb dX9_far_33 (lv_at hl 0 rfl) ?_
        refine lv_iload_n hx hb dX9_far_35 rfl (lv_at hl 3 rfl) ?_
        refine kPi (va_runV (As := [.int (nI (64)), .int (nI (px b i)), .int (nI (mv))]) (rest := [.int (iI (dS ss (px b i))), .int (iI (sZ (DT (dS ss) (tS ss) b mv) i))]) ⟨hx, hb, hml, hown, hts⟩ (c_X9_predicted mh m1 m2 m3 m4 m5 ss hi sl tx ne th kn ke le sp wr si on tw dn 64 (px b i) mv (by first | assumption | omega) (by first | assumption | omega) (by first | assumption | omega) (hP.sub [0, 1, 2, 3, 4, 5] rfl)) (cwV 3 hts gX9_far_X9_predicted rfl rfl rfl (by decide +kernel) ⟨Nat.le_of_ble_eq_true rfl, Nat.le_of_ble_eq_true rfl⟩) (preV hC hS hLo hP (ci := 8) (q0 := 0) rfl rfl) rfl rfl hl.1 rfl (lv_room (Nat.le_of_ble_eq_true rfl)) dX9_far_36 ⟨Nat.zero_le _, Nat.zero_le _⟩) hS (fun locs hS => ?_)
        refine topE (v' := iI (tS ss (fr (px b i) (mdn mv) (mrt mv)))) (congrArg iI (tS_at (fr_lt _ _ _))) ?_
        have hb1 := MR_d hMR (px b i)
        have hb2 := MR_t hMR (fr (px b i) (mdn mv) (mrt mv))
        refine gSub (z := iI ((dS ss (px b i)) - (tS ss (fr (px b i) (mdn mv) (mrt mv))))) hx hb dX9_far_39 (z_sub rfl rfl) ?_
        refine kPi (va_runS (As := [.int (iI ((dS ss (px b i)) - (tS ss (fr (px b i) (mdn mv) (mrt mv)))))]) (rest := [.int (iI (sZ (DT (dS ss) (tS ss) b mv) i))]) ⟨hx, hb, hml, hown, hts⟩ (c_X9_abs ((dS ss (px b i)) - (tS ss (fr (px b i) (mdn mv) (mrt mv)))) (by first | assumption | omega)) (va_cwS 1 hts gX9_far_X9_abs rfl rfl rfl (by decide +kernel) ⟨Nat.le_of_ble_eq_true rfl, Nat.le_of_ble_eq_true rfl⟩) (preS hC hS hLo) rfl rfl hl.1 rfl (lv_room (Nat.le_of_ble_eq_true rfl)) dX9_far_40 ⟨Nat.zero_le _, Nat.zero_le _⟩) hS (fun locs hS => ?_)
        refine gAdd (z := iI ((sZ (DT (dS ss) (tS ss) b mv) i) + ((((dS ss (px b i)) - (tS ss (fr (px b i) (mdn mv) (mrt mv)))).natAbs : Int)))) hx hb dX9_far_43 (z_add rfl rfl) ?_
        refine lv_istore_n (lv' := [(3, .int (iI ((sZ (DT (dS ss) (tS ss) b mv) i) + ((((dS ss (px b i)) - (tS ss (fr (px b i) (mdn mv) (mrt mv)))).natAbs : Int))))), (5, .int (nI (px b i))), (0, .ref mh), (1, .int (nI (b))), (2, .int (nI (mv))), (4, .int (nI (i)))]) hx hb dX9_far_44 rfl hl (by decide) rfl (fun ls hl => ?_)
        refine lv_iinc (v := nI (i + 1)) (lv' := [(4, .int (nI (i + 1))), (3, .int (iI ((sZ (DT (dS ss) (tS ss) b mv) i) + ((((dS ss (px b i)) - (tS ss (fr (px b i) (mdn mv) (mrt mv)))).natAbs : Int))))), (5, .int (nI (px b i))), (0, .ref mh), (1, .int (nI (b))), (2, .int (nI (mv)))]) hx hb dX9_far_45 hl (k := 5) rfl (inc_p i 1) (by decide) rfl (fun ls hl => ?_)
        refine lv_goto (tgt := 5) hx hb dX9_far_48 (by decide) ?_
        exact ih_5 (i + 1) (by omega) (by omega) locs ls hS (lv_sub hl [3, 4, 5, 1, 0] ((lvc rfl (lvc rfl (lvc rfl (lvc (congrArg Value.int (rfl)) (lvc rfl rfl)))))))
  exact L_5 (16 + 1) 0 (Nat.lt_succ_self _) (by omega) locs ls hS (lv_sub hl [2, 3, 4, 1, 0] (lvc rfl (lvc rfl (lvc rfl (lvc (congrArg Value.int (rfl)) (lvc rfl rfl))))))

set_option maxHeartbeats 4000000 in
set_option maxRecDepth 100000 in
theorem c_X9_steps {l : Launch} {G : GT} {H0 : Heap} (mv : Nat) (hm : mv < 25) : Met l yX9_steps wsX9_steps ({ frames := 1, cells := 0, slots := 0, locals := 20 } : Room) (pcG G [.int (nI (mv))] H0) (qPi (nI (lenM mv)) H0) 0 0 noF := by
  refine enter (cc := cX9_steps) (maxL := 1) (ret := some .int) (own := RX9) (lv := [(0, .int (nI (mv)))]) (by decide) rfl rfl rfl (Nat.le_of_ble_eq_true rfl) ?_
  intro pg ev s m below meth c hx hb hr hts hown hlocks hml hnm hH hC ls hl
  subst hH
  have hLo : ∀ q, noF q → lo G q := fun _ h => h.elim
  have hS : va_S noF s.heap s.heap [] := va_S.rf
  generalize ([] : List Loc) = locs at hS ⊢
  have hmd := mdn_in hm
  have hmr := mrt_in mv
  refine lv_iload_n hx hb dX9_steps_0 rfl (lv_at hl 0 rfl) ?_
  refine lv_iconst (v := nI (5)) hx hb dX9_steps_1 (by decide) ?_
  refine gDiv (z := nI (mv / 5)) hx hb dX9_steps_2 (nI_ne0 (by omega) (by omega)) (pk_div (by omega) (by omega) (by omega)) ?_
  refine lv_iconst (v := nI (2)) hx hb dX9_steps_3 (by decide) ?_
  refine gSub (z := iI (mdn mv)) hx hb dX9_steps_4 (z_sub (nI_i _) (nI_i 2)) ?_
  refine kPi (va_runS (As := [.int (iI (mdn mv))]) (rest := []) ⟨hx, hb, hml, hown, hts⟩ (c_X9_abs (mdn mv) (by first | assumption | omega)) (va_cwS 1 hts gX9_steps_X9_abs rfl rfl rfl (by decide +kernel) ⟨Nat.le_of_ble_eq_true rfl, Nat.le_of_ble_eq_true rfl⟩) (preS hC hS hLo) rfl rfl hl.1 rfl (lv_room (Nat.le_of_ble_eq_true rfl)) dX9_steps_5 ⟨Nat.zero_le _, Nat.zero_le _⟩) hS (fun locs hS => ?_)
  refine lv_iload_n hx hb dX9_steps_8 rfl (lv_at hl 0 rfl) ?_
  refine lv_iconst (v := nI (5)) hx hb dX9_steps_9 (by decide) ?_
  refine gRem (z := nI (mv % 5)) hx hb dX9_steps_10 (nI_ne0 (by omega) (by omega)) (pk_rem (by omega) (by omega) (by omega)) ?_
  refine lv_iconst (v := nI (2)) hx hb dX9_steps_11 (by decide) ?_
  refine gSub (z := iI (mrt mv)) hx hb dX9_steps_12 (z_sub (nI_i _) (nI_i 2)) ?_
  refine kPi (va_runS (As := [.int (iI (mrt mv))]) (rest := [.int (iI (((mdn mv).natAbs : Int)))]) ⟨hx, hb, hml, hown, hts⟩ (c_X9_abs (mrt mv) (by first | assumption | omega)) (va_cwS 1 hts gX9_steps_X9_abs rfl rfl rfl (by decide +kernel) ⟨Nat.le_of_ble_eq_true rfl, Nat.le_of_ble_eq_true rfl⟩) (preS hC hS hLo) rfl rfl hl.1 rfl (lv_room (Nat.le_of_ble_eq_true rfl)) dX9_steps_13 ⟨Nat.zero_le _, Nat.zero_le _⟩) hS (fun locs hS => ?_)
  refine gAdd (z := nI (lenM mv)) hx hb dX9_steps_16 (by rw [iI_add, nI_i]; rfl) ?_
  exact xPi hx hb hr hlocks hS (by exact rfl) (by exact rfl) dX9_steps_17

set_option maxHeartbeats 4000000 in
set_option maxRecDepth 100000 in
theorem c_X9_best {l : Launch} {G : GT} {H0 : Heap} (mh m1 m2 m3 m4 m5 : Nat) (ss hi sl : Nat → Int) (tx : Nat → Nat) (ne : Nat → Int) (th : Int32) (kn ke le : Nat) (sp wr si on tw dn : Int32) (b : Nat) (hMR : MR ss) (hb4 : b < 4) (hP0 : PP G ([(mh, .inr (8, [.int (th), .ref m1, .ref m2, .int (nI (kn)), .ref m3, .int (nI (ke)), .ref m4, .int (nI (le)), .ref m5, .int (sp), .int (wr), .int (si), .int (on), .int (tw), .int (dn)])), (m1, .inl (cI G, 205, .inl (fun z9 => iI (ss z9)))), (m2, .inl (cI G, 1230, .inl (fun z9 => iI (hi z9)))), (m3, .inl (cI G, 410, .inl (fun z9 => iI (sl z9)))), (m4, .inl (cI G, 80, .inl (fun z9 => nI (tx z9)))), (m5, .inl (cI G, 128, .inl (fun z9 => iI (ne z9))))]) H0) : Met l yX9_best wsX9_best ({ frames := 4, cells := 0, slots := 0, locals := 90 } : Room) (pcG G [.ref mh, .int (nI (b))] H0) (qPi (nI (BEST (dS ss) (tS ss) b)) H0) 0 0 noF := by
  refine enter (cc := cX9_best) (maxL := 5) (ret := some .int) (own := RX9) (lv := [(0, .ref mh), (1, .int (nI (b)))]) (by decide) rfl rfl rfl (Nat.le_of_ble_eq_true rfl) ?_
  intro pg ev s m below meth c hx hb hr hts hown hlocks hml hnm hH hC ls hl
  subst hH
  have hLo : ∀ q, noF q → lo G q := fun _ h => h.elim
  have hS : va_S noF s.heap s.heap [] := va_S.rf
  generalize ([] : List Loc) = locs at hS ⊢
  have hP := hP0
  refine lv_iconst (v := nI (0)) hx hb dX9_best_0 (by decide) ?_
  refine lv_istore_n (lv' := [(2, .int (nI (0))), (0, .ref mh), (1, .int (nI (b)))]) hx hb dX9_best_1 rfl hl (by decide) rfl (fun ls hl => ?_)
  refine lv_iconst (v := nI (1)) hx hb dX9_best_2 (by decide) ?_
  refine lv_istore_n (lv' := [(3, .int (nI (1))), (2, .int (nI (0))), (0, .ref mh), (1, .int (nI (b)))]) hx hb dX9_best_3 rfl hl (by decide) rfl (fun ls hl => ?_)
  have L_4 : ∀ (n_4 : Nat) (i : Nat), 24 - i < n_4 → (i ≤ 24) → ∀ (locs : List Loc) (ls : Array Slot), va_S noF s.heap s.heap locs → lv_has ls 5 [(0, .ref mh), (1, .int (nI (b))), (2, .int (nI (bst (DIST (dS ss) (tS ss) b) i))), (3, .int (nI (i + 1)))] → W pg l ev ({ frames := 4, cells := 0, slots := 0, locals := 90 } : Room) s m (([.ref mh, .int (nI (b))] : List Value).toArray) below meth c s.heap locs 0 0 (MQ below (qPi (nI (BEST (dS ss) (tS ss) b)) s.heap) (([.ref mh, .int (nI (b))] : List Value).toArray) s 0 0 noF) (F0 m 4 ls []) := by
    intro n_4
    induction n_4 with
    | zero => intro i hn; exact absurd hn (Nat.not_lt_zero _)
    | succ n_4 ih_4 =>
      intro i hn_4 hi9 locs ls hS hl
      refine lv_iload_n hx hb dX9_best_4 rfl (lv_at hl 3 rfl) ?_
      refine lv_bipush (v := nI (25)) hx hb dX9_best_5 (by decide) ?_
      refine lv_icmp_ge (tgt := 58) hx hb dX9_best_7 (by decide) (fun c_1 => ?_) (fun c_1 => ?_)
      · have f_2 : (25 : Int) ≤ ((i + 1 : Nat) : Int) := (c_le (nI_toInt (n := 25) (by omega)) (nI_toInt (n := i + 1) (by omega))).mp c_1
        have e_i : i = 24 := by omega
        replace e_i := e_i.symm
        subst e_i
        refine lv_iload_n hx hb dX9_best_58 rfl (lv_at hl 2 rfl) ?_
        exact xPi hx hb hr hlocks hS (by exact rfl) (by exact rfl) dX9_best_59
      · have f_3 : ¬ (25 : Int) ≤ ((i + 1 : Nat) : Int) := fun z => c_1 ((c_le (nI_toInt (n := 25) (by omega)) (nI_toInt (n := i + 1) (by omega))).mpr z)
        have hble := bst_le (DIST (dS ss) (tS ss) b) i
        have hle1 := lenM_le (m := i + 1) (by omega)
        have hle2 := lenM_le (m := bst (DIST (dS ss) (tS ss) b) i) (by omega)
        have hq1 := DIST_in (MR_d hMR) (MR_t hMR) b (i + 1)
        have hq2 := DIST_in (MR_d hMR) (MR_t hMR) b (bst (DIST (dS ss) (tS ss) b) i)
        refine lv_aload_n hx hb dX9_best_10 rfl (lv_at hl 0 rfl) ?_
        refine lv_iload_n hx hb dX9_best_11 rfl (lv_at hl 1 rfl) ?_
        refine lv_iload_n hx hb dX9_best_12 rfl (lv_at hl 3 rfl) ?_
        refine kPi (va_runV (As := [.int (nI (b)), .int (nI (i + 1))]) (rest := []) ⟨hx, hb, hml, hown, hts⟩ (c_X9_far mh m1 m2 m3 m4 m5 ss hi sl tx ne th kn ke le sp wr si on tw dn b (i + 1) (by first | assumption | omega) (by first | assumption | omega) (by first | assumption | omega) (hP.sub [0, 1, 2, 3, 4, 5] rfl)) (cwV 2 hts gX9_best_X9_far rfl rfl rfl (by decide +kernel) ⟨Nat.le_of_ble_eq_true rfl, Nat.le_of_ble_eq_true rfl⟩) (preV hC hS hLo hP (ci := 8) (q0 := 0) rfl rfl) rfl rfl hl.1 rfl (lv_room (Nat.le_of_ble_eq_true rfl)) dX9_best_13 ⟨Nat.zero_le _, Nat.zero_le _⟩) hS (fun locs hS => ?_)
        refine lv_aload_n hx hb dX9_best_16 rfl (lv_at hl 0 rfl) ?_
        refine lv_iload_n hx hb dX9_best_17 rfl (lv_at hl 1 rfl) ?_
        refine lv_iload_n hx hb dX9_best_18 rfl (lv_at hl 2 rfl) ?_
        refine kPi (va_runV (As := [.int (nI (b)), .int (nI (bst (DIST (dS ss) (tS ss) b) i))]) (rest := [.int (iI (DIST (dS ss) (tS ss) b (i + 1)))]) ⟨hx, hb, hml, hown, hts⟩ (c_X9_far mh m1 m2 m3 m4 m5 ss hi sl tx ne th kn ke le sp wr si on tw dn b (bst (DIST (dS ss) (tS ss) b) i) (by first | assumption | omega) (by first | assumption | omega) (by first | assumption | omega) (hP.sub [0, 1, 2, 3, 4, 5] rfl)) (cwV 2 hts gX9_best_X9_far rfl rfl rfl (by decide +kernel) ⟨Nat.le_of_ble_eq_true rfl, Nat.le_of_ble_eq_true rfl⟩) (preV hC hS hLo hP (ci := 8) (q0 := 0) rfl rfl) rfl rfl hl.1 rfl (lv_room (Nat.le_of_ble_eq_true rfl)) dX9_best_19 ⟨Nat.zero_le _, Nat.zero_le _⟩) hS (fun locs hS => ?_)
        refine gSub (z := iI ((DIST (dS ss) (tS ss) b (i + 1)) - (DIST (dS ss) (tS ss) b (bst (DIST (dS ss) (tS ss) b) i)))) hx hb dX9_best_22 (z_sub rfl rfl) ?_
        refine lv_istore (lv' := [(4, .int (iI ((DIST (dS ss) (tS ss) b (i + 1)) - (DIST (dS ss) (tS ss) b (bst (DIST (dS ss) (tS ss) b) i))))), (0, .ref mh), (1, .int (nI (b))), (2, .int (nI (bst (DIST (dS ss) (tS ss) b) i))), (3, .int (nI (i + 1)))]) hx hb dX9_best_23 hl (by decide) rfl (fun ls hl => ?_)
        have J_51 : ∀ (locs : List Loc) (ls : Array Slot), va_S noF s.heap s.heap locs → lv_has ls 5 [(0, .ref mh), (1, .int (nI (b))), (2, .int (nI (bst (DIST (dS ss) (tS ss) b) i))), (3, .int (nI (i + 1))), (4, .int (iI ((DIST (dS ss) (tS ss) b (i + 1)) - (DIST (dS ss) (tS ss) b (bst (DIST (dS ss) (tS ss) b) i)))))] → W pg l ev ({ frames := 4, cells := 0, slots := 0, locals := 90 } : Room) s m (([.ref mh, .int (nI (b))] : List Value).toArray) below meth c s.heap locs 0 0 (MQ below (qPi (nI (BEST (dS ss) (tS ss) b)) s.heap) (([.ref mh, .int (nI (b))] : List Value).toArray) s 0 0 noF) (F0 m 51 ls [.int (nI (bst (DIST (dS ss) (tS ss) b) (i + 1)))]) := by
          intro locs ls hS hl
          refine lv_istore_n (lv' := [(2, .int (nI (bst (DIST (dS ss) (tS ss) b) (i + 1)))), (0, .ref mh), (1, .int (nI (b))), (3, .int (nI (i + 1))), (4, .int (iI ((DIST (dS ss) (tS ss) b (i + 1)) - (DIST (dS ss) (tS ss) b (bst (DIST (dS ss) (tS ss) b) i)))))]) hx hb dX9_best_51 rfl hl (by decide) rfl (fun ls hl => ?_)
          refine lv_iinc (v := nI ((i + 1) + 1)) (lv' := [(3, .int (nI ((i + 1) + 1))), (2, .int (nI (bst (DIST (dS ss) (tS ss) b) (i + 1)))), (0, .ref mh), (1, .int (nI (b))), (4, .int (iI ((DIST (dS ss) (tS ss) b (i + 1)) - (DIST (dS ss) (tS ss) b (bst (DIST (dS ss) (tS ss) b) i)))))]) hx hb dX9_best_52 hl (k := 3) rfl (inc_p (i + 1) 1) (by decide) rfl (fun ls hl => ?_)
          refine lv_goto (tgt := 4) hx hb dX9_best_55 (by decide) ?_
          exact ih_4 (i + 1) (by omega) (by omega) locs ls hS (lv_sub hl [2, 3, 1, 0] ((lvc rfl (lvc rfl (lvc rfl (lvc rfl rfl))))))
        refine lv_iload hx hb dX9_best_25 (lv_at hl 0 rfl) ?_
        refine lv_if_lt (tgt := 46) hx hb dX9_best_27 (by decide) (fun c_4 => ?_) (fun c_4 => ?_)
        · have f_5 : ((DIST (dS ss) (tS ss) b (i + 1)) - (DIST (dS ss) (tS ss) b (bst (DIST (dS ss) (tS ss) b) i))) < (0 : Int) := (c_lt (iI_toInt (by omega) (by omega)) rfl).mp c_4
          refine lv_iload_n hx hb dX9_best_46 rfl (lv_at hl 4 rfl) ?_
          refine lv_goto (tgt := 51) hx hb dX9_best_47 (by decide) ?_
          refine topE (v' := nI (bst (DIST (dS ss) (tS ss) b) (i + 1))) (congrArg nI ((bst_y (Or.inl (by omega))).symm)) ?_
          exact J_51 locs ls hS (lv_sub hl [1, 2, 3, 4, 0] (rfl))
        · have f_6 : ¬ ((DIST (dS ss) (tS ss) b (i + 1)) - (DIST (dS ss) (tS ss) b (bst (DIST (dS ss) (tS ss) b) i))) < (0 : Int) := fun z => c_4 ((c_lt (iI_toInt (by omega) (by omega)) rfl).mpr z)
          refine lv_iload hx hb dX9_best_30 (lv_at hl 0 rfl) ?_
          refine lv_if_ne (tgt := 50) hx hb dX9_best_32 (by decide) (fun c_7 => ?_) (fun c_7 => ?_)
          · have f_8 : ¬ ((DIST (dS ss) (tS ss) b (i + 1)) - (DIST (dS ss) (tS ss) b (bst (DIST (dS ss) (tS ss) b) i))) = (0 : Int) := fun z => c_7 ((c_eq (iI_toInt (by omega) (by omega)) rfl).mpr z)
            refine lv_iload_n hx hb dX9_best_50 rfl (lv_at hl 3 rfl) ?_
            refine topE (v' := nI (bst (DIST (dS ss) (tS ss) b) (i + 1))) (congrArg nI ((bst_n (by omega)).symm)) ?_
            exact J_51 locs ls hS (lv_sub hl [1, 2, 3, 4, 0] (rfl))
          · have f_9 : ((DIST (dS ss) (tS ss) b (i + 1)) - (DIST (dS ss) (tS ss) b (bst (DIST (dS ss) (tS ss) b) i))) = (0 : Int) := (c_eq (iI_toInt (by omega) (by omega)) rfl).mp c_7
            refine lv_iload_n hx hb dX9_best_35 rfl (lv_at hl 4 rfl) ?_
            refine kPi (va_runS (As := [.int (nI (i + 1))]) (rest := []) ⟨hx, hb, hml, hown, hts⟩ (c_X9_steps (i + 1) (by first | assumption | omega)) (va_cwS 1 hts gX9_best_X9_steps rfl rfl rfl (by decide +kernel) ⟨Nat.le_of_ble_eq_true rfl, Nat.le_of_ble_eq_true rfl⟩) (preS hC hS hLo) rfl rfl hl.1 rfl (lv_room (Nat.le_of_ble_eq_true rfl)) dX9_best_36 ⟨Nat.zero_le _, Nat.zero_le _⟩) hS (fun locs hS => ?_)
            refine lv_iload_n hx hb dX9_best_39 rfl (lv_at hl 3 rfl) ?_
            refine kPi (va_runS (As := [.int (nI (bst (DIST (dS ss) (tS ss) b) i))]) (rest := [.int (nI (lenM (i + 1)))]) ⟨hx, hb, hml, hown, hts⟩ (c_X9_steps (bst (DIST (dS ss) (tS ss) b) i) (by first | assumption | omega)) (va_cwS 1 hts gX9_best_X9_steps rfl rfl rfl (by decide +kernel) ⟨Nat.le_of_ble_eq_true rfl, Nat.le_of_ble_eq_true rfl⟩) (preS hC hS hLo) rfl rfl hl.1 rfl (lv_room (Nat.le_of_ble_eq_true rfl)) dX9_best_40 ⟨Nat.zero_le _, Nat.zero_le _⟩) hS (fun locs hS => ?_)
            refine lv_icmp_ge (tgt := 50) hx hb dX9_best_43 (by decide) (fun c_10 => ?_) (fun c_10 => ?_)
            · have f_11 : ((lenM (bst (DIST (dS ss) (tS ss) b) i) : Nat) : Int) ≤ ((lenM (i + 1) : Nat) : Int) := (c_le (nI_toInt (n := lenM (bst (DIST (dS ss) (tS ss) b) i)) (by omega)) (nI_toInt (n := lenM (i + 1)) (by omega))).mp c_10
              refine lv_iload_n hx hb dX9_best_50 rfl (lv_at hl 3 rfl) ?_
              refine topE (v' := nI (bst (DIST (dS ss) (tS ss) b) (i + 1))) (congrArg nI ((bst_n (by omega)).symm)) ?_
              exact J_51 locs ls hS (lv_sub hl [1, 2, 3, 4, 0] (rfl))
            · have f_12 : ¬ ((lenM (bst (DIST (dS ss) (tS ss) b) i) : Nat) : Int) ≤ ((lenM (i + 1) : Nat) : Int) := fun z => c_10 ((c_le (nI_toInt (n := lenM (bst (DIST (dS ss) (tS ss) b) i)) (by omega)) (nI_toInt (n := lenM (i + 1)) (by omega))).mpr z)
              refine lv_iload_n hx hb dX9_best_46 rfl (lv_at hl 4 rfl) ?_
              refine lv_goto (tgt := 51) hx hb dX9_best_47 (by decide) ?_
              refine topE (v' := nI (bst (DIST (dS ss) (tS ss) b) (i + 1))) (congrArg nI ((bst_y (Or.inr ⟨by omega, by omega⟩)).symm)) ?_
              exact J_51 locs ls hS (lv_sub hl [1, 2, 3, 4, 0] (rfl))
  exact L_4 (24 + 1) 0 (Nat.lt_succ_self _) (by omega) locs ls hS (lv_sub hl [2, 3, 1, 0] (lvc rfl (lvc rfl (lvc (congrArg Value.int (rfl)) (lvc (congrArg Value.int (rfl)) rfl)))))

set_option maxHeartbeats 4000000 in
set_option maxRecDepth 100000 in
theorem c_X9_level {l : Launch} {G : GT} {H0 : Heap} (mh m1 m2 m3 m4 m5 : Nat) (ss hi sl : Nat → Int) (tx : Nat → Nat) (ne : Nat → Int) (th : Int32) (kn ke le : Nat) (sp wr si on tw dn : Int32) (p mv q : Nat) (hMR : MR ss) (hp : p < 64) (hm : mv < 25) (hq : 1 ≤ q ∧ q ≤ 8) (hP0 : PP G ([(mh, .inr (8, [.int (th), .ref m1, .ref m2, .int (nI (kn)), .ref m3, .int (nI (ke)), .ref m4, .int (nI (le)), .ref m5, .int (sp), .int (wr), .int (si), .int (on), .int (tw), .int (dn)])), (m1, .inl (cI G, 205, .inl (fun z9 => iI (ss z9)))), (m2, .inl (cI G, 1230, .inl (fun z9 => iI (hi z9)))), (m3, .inl (cI G, 410, .inl (fun z9 => iI (sl z9)))), (m4, .inl (cI G, 80, .inl (fun z9 => nI (tx z9)))), (m5, .inl (cI G, 128, .inl (fun z9 => iI (ne z9))))]) H0) : Met l yX9_level wsX9_level ({ frames := 3, cells := 0, slots := 0, locals := 65 } : Room) (pcG G [.ref mh, .int (nI (p)), .int (nI (mv)), .int (nI (q))] H0) (qPi (iI (lv (dS ss p - tS ss (fr p (mdn mv) (mrt mv))) q)) H0) 0 0 noF := by
  refine enter (cc := cX9_level) (maxL := 4) (ret := some .int) (own := RX9) (lv := [(0, .ref mh), (1, .int (nI (p))), (2, .int (nI (mv))), (3, .int (nI (q)))]) (by decide) rfl rfl rfl (Nat.le_of_ble_eq_true rfl) ?_
  intro pg ev s m below meth c hx hb hr hts hown hlocks hml hnm hH hC ls hl
  subst hH
  have hLo : ∀ q, noF q → lo G q := fun _ h => h.elim
  have hS : va_S noF s.heap s.heap [] := va_S.rf
  generalize ([] : List Loc) = locs at hS ⊢
  have hP := hP0
  refine lv_aload_n hx hb dX9_level_0 rfl (lv_at hl 0 rfl) ?_
  refine va_get (D := gD G) (cl := vwCl) (tys := tyl G) (ci := 8) (v := .ref m1) (C := RX9) (T := TX9) (N := 15) hx hb hts (by decide +kernel) hown hC.K hP 0 rfl rfl 1 (by decide) (hts (.fieldLink RX9 7 "MotionPostModel" "s" "[I") (by decide +kernel)) (fun _ h9 => h9) rfl dX9_level_1 ?_
  refine lv_iconst (v := nI (0)) hx hb dX9_level_4 (by decide) ?_
  refine lv_iload_n hx hb dX9_level_5 rfl (lv_at hl 1 rfl) ?_
  refine gAdd (z := nI (p)) hx hb dX9_level_6 ((nI_add 0 _).trans (congrArg nI (Nat.zero_add _))) ?_
  refine gIald (j := p) hx hb hC.K hP 1 0 rfl rfl (rfl) (by omega) (by decide) dX9_level_7 ?_
  refine topE (v' := iI (dS ss p)) (congrArg iI (dS_at hp)) ?_
  refine lv_aload_n hx hb dX9_level_8 rfl (lv_at hl 0 rfl) ?_
  refine lv_bipush (v := nI (64)) hx hb dX9_level_9 (by decide) ?_
  refine lv_iload_n hx hb dX9_level_11 rfl (lv_at hl 1 rfl) ?_
  refine lv_iload_n hx hb dX9_level_12 rfl (lv_at hl 2 rfl) ?_
  refine kPi (va_runV (As := [.int (nI (64)), .int (nI (p)), .int (nI (mv))]) (rest := [.int (iI (dS ss p))]) ⟨hx, hb, hml, hown, hts⟩ (c_X9_predicted mh m1 m2 m3 m4 m5 ss hi sl tx ne th kn ke le sp wr si on tw dn 64 p mv (by first | assumption | omega) (by first | assumption | omega) (by first | assumption | omega) (hP.sub [0, 1, 2, 3, 4, 5] rfl)) (cwV 3 hts gX9_level_X9_predicted rfl rfl rfl (by decide +kernel) ⟨Nat.le_of_ble_eq_true rfl, Nat.le_of_ble_eq_true rfl⟩) (preV hC hS hLo hP (ci := 8) (q0 := 0) rfl rfl) rfl rfl hl.1 rfl (lv_room (Nat.le_of_ble_eq_true rfl)) dX9_level_13 ⟨Nat.zero_le _, Nat.zero_le _⟩) hS (fun locs hS => ?_)
  refine topE (v' := iI (tS ss (fr p (mdn mv) (mrt mv)))) (congrArg iI (tS_at (fr_lt _ _ _))) ?_
  have hb1 := MR_d hMR p
  have hb2 := MR_t hMR (fr p (mdn mv) (mrt mv))
  refine gSub (z := iI ((dS ss p) - (tS ss (fr p (mdn mv) (mrt mv))))) hx hb dX9_level_16 (z_sub rfl rfl) ?_
  refine lv_iload_n hx hb dX9_level_17 rfl (lv_at hl 3 rfl) ?_
  refine gDiv (z := iI (Int.tdiv ((dS ss p) - (tS ss (fr p (mdn mv) (mrt mv)))) ((q : Nat) : Int))) hx hb dX9_level_18 (nI_ne0 (by omega) (by omega)) (z_div rfl (nI_i (q)) (by omega) (by omega) (by omega) (by omega)) ?_
  exact xPi hx hb hr hlocks hS (by exact rfl) (by exact rfl) dX9_level_19

set_option maxHeartbeats 4000000 in
set_option maxRecDepth 100000 in
theorem c_X9_bitsOf {l : Launch} {G : GT} {H0 : Heap} (z : Int) (hz : -15 ≤ z ∧ z ≤ 15) : Met l yX9_bitsOf wsX9_bitsOf ({ frames := 1, cells := 0, slots := 0, locals := 20 } : Room) (pcG G [.int (iI (z))] H0) (qPi (nI (lbits z)) H0) 0 0 noF := by
  refine enter (cc := cX9_bitsOf) (maxL := 3) (ret := some .int) (own := RX9) (lv := [(0, .int (iI (z)))]) (by decide) rfl rfl rfl (Nat.le_of_ble_eq_true rfl) ?_
  intro pg ev s m below meth c hx hb hr hts hown hlocks hml hnm hH hC ls hl
  subst hH
  have hLo : ∀ q, noF q → lo G q := fun _ h => h.elim
  have hS : va_S noF s.heap s.heap [] := va_S.rf
  generalize ([] : List Loc) = locs at hS ⊢
  have J_9 : ∀ (locs : List Loc) (ls : Array Slot), va_S noF s.heap s.heap locs → lv_has ls 3 [(0, .int (iI (z)))] → W pg l ev ({ frames := 1, cells := 0, slots := 0, locals := 20 } : Room) s m (([.int (iI (z))] : List Value).toArray) below meth c s.heap locs 0 0 (MQ below (qPi (nI (lbits z)) s.heap) (([.int (iI (z))] : List Value).toArray) s 0 0 noF) (F0 m 9 ls [.int (nI (if z = 0 then 1 else 2))]) := by
    intro locs ls hS hl
    refine lv_istore_n (lv' := [(1, .int (nI (if z = 0 then 1 else 2))), (0, .int (iI (z)))]) hx hb dX9_bitsOf_9 rfl hl (by decide) rfl (fun ls hl => ?_)
    refine lv_iload_n hx hb dX9_bitsOf_10 rfl (lv_at hl 1 rfl) ?_
    refine kPi (va_runS (As := [.int (iI (z))]) (rest := []) ⟨hx, hb, hml, hown, hts⟩ (c_X9_abs z (by first | assumption | omega)) (va_cwS 1 hts gX9_bitsOf_X9_abs rfl rfl rfl (by decide +kernel) ⟨Nat.le_of_ble_eq_true rfl, Nat.le_of_ble_eq_true rfl⟩) (preS hC hS hLo) rfl rfl hl.1 rfl (lv_room (Nat.le_of_ble_eq_true rfl)) dX9_bitsOf_11 ⟨Nat.zero_le _, Nat.zero_le _⟩) hS (fun locs hS => ?_)
    refine lv_iconst (v := nI (1)) hx hb dX9_bitsOf_14 (by decide) ?_
    refine gAdd (z := nI (z.natAbs + 1)) hx hb dX9_bitsOf_15 ((z_add rfl (nI_i 1)).trans (z_abs1 z)) ?_
    refine lv_istore_n (lv' := [(2, .int (nI (z.natAbs + 1))), (1, .int (nI (if z = 0 then 1 else 2))), (0, .int (iI (z)))]) hx hb dX9_bitsOf_16 rfl hl (by decide) rfl (fun ls hl => ?_)
    have L_17 : ∀ (n_17 : Nat) (sm n : Nat), n < n_17 → (sm + 2 * Nat.log2 n = lbits z) → (n ≤ 16) → (sm ≤ 100) → ∀ (locs : List Loc) (ls : Array Slot), va_S noF s.heap s.heap locs → lv_has ls 3 [(0, .int (iI (z))), (1, .int (nI (sm))), (2, .int (nI (n)))] → W pg l ev ({ frames := 1, cells := 0, slots := 0, locals := 20 } : Room) s m (([.int (iI (z))] : List Value).toArray) below meth c s.heap locs 0 0 (MQ below (qPi (nI (lbits z)) s.heap) (([.int (iI (z))] : List Value).toArray) s 0 0 noF) (F0 m 17 ls []) := by
      intro n_17
      induction n_17 with
      | zero => intro sm n hn; exact absurd hn (Nat.not_lt_zero _)
      | succ n_17 ih_17 =>
        intro sm n hn_17 hs hn hsm locs ls hS hl
        refine lv_iload_n hx hb dX9_bitsOf_17 rfl (lv_at hl 2 rfl) ?_
        refine lv_iconst (v := nI (1)) hx hb dX9_bitsOf_18 (by decide) ?_
        refine lv_icmp_le (tgt := 32) hx hb dX9_bitsOf_19 (by decide) (fun c_1 => ?_) (fun c_1 => ?_)
        · have f_2 : ((n : Nat) : Int) ≤ (1 : Int) := (c_le (nI_toInt (n := n) (by omega)) (nI_toInt (n := 1) (by omega))).mp c_1
          have hl1 := log2_one (n := n) (by omega)
          refine lv_iload_n hx hb dX9_bitsOf_32 rfl (lv_at hl 1 rfl) ?_
          exact xPi hx hb hr hlocks hS (by exact congrArg nI (by omega)) (by exact rfl) dX9_bitsOf_33
        · have f_3 : ¬ ((n : Nat) : Int) ≤ (1 : Int) := fun z => c_1 ((c_le (nI_toInt (n := n) (by omega)) (nI_toInt (n := 1) (by omega))).mpr z)
          refine lv_iinc (v := nI (sm + 2)) (lv' := [(1, .int (nI (sm + 2))), (0, .int (iI (z))), (2, .int (nI (n)))]) hx hb dX9_bitsOf_22 hl (k := 1) rfl (inc_p sm 2) (by decide) rfl (fun ls hl => ?_)
          refine lv_iload_n hx hb dX9_bitsOf_25 rfl (lv_at hl 2 rfl) ?_
          refine lv_iconst (v := nI (2)) hx hb dX9_bitsOf_26 (by decide) ?_
          refine gDiv (z := nI (n / 2)) hx hb dX9_bitsOf_27 (nI_ne0 (by omega) (by omega)) (pk_div (by omega) (by omega) (by omega)) ?_
          refine lv_istore_n (lv' := [(2, .int (nI (n / 2))), (1, .int (nI (sm + 2))), (0, .int (iI (z)))]) hx hb dX9_bitsOf_28 rfl hl (by decide) rfl (fun ls hl => ?_)
          refine lv_goto (tgt := 17) hx hb dX9_bitsOf_29 (by decide) ?_
          exact ih_17 (sm + 2) (n / 2) (by omega) (by have := log2_half (n := n) (by omega); omega) (by omega) (by have := log2_16 hn; have := lbits_in hz; omega) locs ls hS (lv_sub hl [2, 1, 0] ((lvc rfl (lvc rfl (lvc rfl rfl)))))
    exact L_17 (_ + 1) (if z = 0 then 1 else 2) (z.natAbs + 1) (Nat.lt_succ_self _) (by unfold lbits; omega) (by omega) (by split <;> omega) locs ls hS (lv_sub hl [2, 1, 0] (lvc rfl (lvc rfl (lvc rfl rfl))))
  refine lv_iload_n hx hb dX9_bitsOf_0 rfl (lv_at hl 0 rfl) ?_
  refine lv_if_ne (tgt := 8) hx hb dX9_bitsOf_1 (by decide) (fun c_4 => ?_) (fun c_4 => ?_)
  · have f_5 : ¬ (z) = (0 : Int) := fun z => c_4 ((c_eq (iI_toInt (by omega) (by omega)) rfl).mpr z)
    refine lv_iconst (v := nI (2)) hx hb dX9_bitsOf_8 (by decide) ?_
    refine topE (v' := nI (if z = 0 then 1 else 2)) (by first | exact congrArg nI (if_pos (by omega)).symm | exact congrArg nI (if_neg (by omega)).symm) ?_
    exact J_9 locs ls hS (lv_sub hl [0] (rfl))
  · have f_6 : (z) = (0 : Int) := (c_eq (iI_toInt (by omega) (by omega)) rfl).mp c_4
    refine lv_iconst (v := nI (1)) hx hb dX9_bitsOf_4 (by decide) ?_
    refine lv_goto (tgt := 9) hx hb dX9_bitsOf_5 (by decide) ?_
    refine topE (v' := nI (if z = 0 then 1 else 2)) (by first | exact congrArg nI (if_pos (by omega)).symm | exact congrArg nI (if_neg (by omega)).symm) ?_
    exact J_9 locs ls hS (lv_sub hl [0] (rfl))

set_option maxHeartbeats 4000000 in
set_option maxRecDepth 100000 in
theorem c_X9_movedBits {l : Launch} {G : GT} {H0 : Heap} (mh m1 m2 m3 m4 m5 : Nat) (ss hi sl : Nat → Int) (tx : Nat → Nat) (ne : Nat → Int) (th : Int32) (kn ke le : Nat) (sp wr si on tw dn : Int32) (b mv q : Nat) (hMR : MR ss) (hb4 : b < 4) (hm : mv < 25) (hq : 1 ≤ q ∧ q ≤ 8) (hP0 : PP G ([(mh, .inr (8, [.int (th), .ref m1, .ref m2, .int (nI (kn)), .ref m3, .int (nI (ke)), .ref m4, .int (nI (le)), .ref m5, .int (sp), .int (wr), .int (si), .int (on), .int (tw), .int (dn)])), (m1, .inl (cI G, 205, .inl (fun z9 => iI (ss z9)))), (m2, .inl (cI G, 1230, .inl (fun z9 => iI (hi z9)))), (m3, .inl (cI G, 410, .inl (fun z9 => iI (sl z9)))), (m4, .inl (cI G, 80, .inl (fun z9 => nI (tx z9)))), (m5, .inl (cI G, 128, .inl (fun z9 => iI (ne z9))))]) H0) : Met l yX9_movedBits wsX9_movedBits ({ frames := 4, cells := 0, slots := 0, locals := 88 } : Room) (pcG G [.ref mh, .int (nI (b)), .int (nI (mv)), .int (nI (q))] H0) (qPi (nI (6 + LM (dS ss) (tS ss) b mv q 16)) H0) 0 0 noF := by
  refine enter (cc := cX9_movedBits) (maxL := 6) (ret := some .int) (own := RX9) (lv := [(0, .ref mh), (1, .int (nI (b))), (2, .int (nI (mv))), (3, .int (nI (q)))]) (by decide) rfl rfl rfl (Nat.le_of_ble_eq_true rfl) ?_
  intro pg ev s m below meth c hx hb hr hts hown hlocks hml hnm hH hC ls hl
  subst hH
  have hLo : ∀ q, noF q → lo G q := fun _ h => h.elim
  have hS : va_S noF s.heap s.heap [] := va_S.rf
  generalize ([] : List Loc) = locs at hS ⊢
  have hP := hP0
  refine lv_bipush (v := nI (6)) hx hb dX9_movedBits_0 (by decide) ?_
  refine lv_istore (lv' := [(4, .int (nI (6))), (0, .ref mh), (1, .int (nI (b))), (2, .int (nI (mv))), (3, .int (nI (q)))]) hx hb dX9_movedBits_2 hl (by decide) rfl (fun ls hl => ?_)
  refine lv_iconst (v := nI (0)) hx hb dX9_movedBits_4 (by decide) ?_
  refine lv_istore (lv' := [(5, .int (nI (0))), (4, .int (nI (6))), (0, .ref mh), (1, .int (nI (b))), (2, .int (nI (mv))), (3, .int (nI (q)))]) hx hb dX9_movedBits_5 hl (by decide) rfl (fun ls hl => ?_)
  have L_7 : ∀ (n_7 : Nat) (i : Nat), 16 - i < n_7 → (i ≤ 16) → ∀ (locs : List Loc) (ls : Array Slot), va_S noF s.heap s.heap locs → lv_has ls 6 [(0, .ref mh), (1, .int (nI (b))), (2, .int (nI (mv))), (3, .int (nI (q))), (4, .int (nI (6 + LM (dS ss) (tS ss) b mv q i))), (5, .int (nI (i)))] → W pg l ev ({ frames := 4, cells := 0, slots := 0, locals := 88 } : Room) s m (([.ref mh, .int (nI (b)), .int (nI (mv)), .int (nI (q))] : List Value).toArray) below meth c s.heap locs 0 0 (MQ below (qPi (nI (6 + LM (dS ss) (tS ss) b mv q 16)) s.heap) (([.ref mh, .int (nI (b)), .int (nI (mv)), .int (nI (q))] : List Value).toArray) s 0 0 noF) (F0 m 7 ls []) := by
    intro n_7
    induction n_7 with
    | zero => intro i hn; exact absurd hn (Nat.not_lt_zero _)
    | succ n_7 ih_7 =>
      intro i hn_7 hi9 locs ls hS hl
      refine lv_iload hx hb dX9_movedBits_7 (lv_at hl 5 rfl) ?_
      refine lv_bipush (v := nI (16)) hx hb dX9_movedBits_9 (by decide) ?_
      refine lv_icmp_ge (tgt := 40) hx hb dX9_movedBits_11 (by decide) (fun c_1 => ?_) (fun c_1 => ?_)
      · have f_2 : (16 : Int) ≤ ((i : Nat) : Int) := (c_le (nI_toInt (n := 16) (by omega)) (nI_toInt (n := i) (by omega))).mp c_1
        have e_i : i = 16 := by omega
        replace e_i := e_i.symm
        subst e_i
        refine lv_iload hx hb dX9_movedBits_40 (lv_at hl 4 rfl) ?_
        exact xPi hx hb hr hlocks hS (by exact rfl) (by exact rfl) dX9_movedBits_42
      · have f_3 : ¬ (16 : Int) ≤ ((i : Nat) : Int) := fun z => c_1 ((c_le (nI_toInt (n := 16) (by omega)) (nI_toInt (n := i) (by omega))).mpr z)
        refine lv_iload hx hb dX9_movedBits_14 (lv_at hl 4 rfl) ?_
        refine lv_aload_n hx hb dX9_movedBits_16 rfl (lv_at hl 0 rfl) ?_
        refine lv_iload_n hx hb dX9_movedBits_17 rfl (lv_at hl 1 rfl) ?_
        refine lv_iload hx hb dX9_movedBits_18 (lv_at hl 5 rfl) ?_
        refine kPi (va_runS (As := [.int (nI (b)), .int (nI (i))]) (rest := [.ref mh, .int (nI (6 + LM (dS ss) (tS ss) b mv q i))]) ⟨hx, hb, hml, hown, hts⟩ (c_X9_pixel b i (by first | assumption | omega) (by first | assumption | omega)) (va_cwS 2 hts gX9_movedBits_X9_pixel rfl rfl rfl (by decide +kernel) ⟨Nat.le_of_ble_eq_true rfl, Nat.le_of_ble_eq_true rfl⟩) (preS hC hS hLo) rfl rfl hl.1 rfl (lv_room (Nat.le_of_ble_eq_true rfl)) dX9_movedBits_20 ⟨Nat.zero_le _, Nat.zero_le _⟩) hS (fun locs hS => ?_)
        have hpx := px_lt hb4 (by omega : i < 16)
        have hlv := lv_in (DFm_in (MR_d hMR) (MR_t hMR) b mv i) hq.1
        refine lv_iload_n hx hb dX9_movedBits_23 rfl (lv_at hl 2 rfl) ?_
        refine lv_iload_n hx hb dX9_movedBits_24 rfl (lv_at hl 3 rfl) ?_
        refine kPi (va_runV (As := [.int (nI (px b i)), .int (nI (mv)), .int (nI (q))]) (rest := [.int (nI (6 + LM (dS ss) (tS ss) b mv q i))]) ⟨hx, hb, hml, hown, hts⟩ (c_X9_level mh m1 m2 m3 m4 m5 ss hi sl tx ne th kn ke le sp wr si on tw dn (px b i) mv q (by first | assumption | omega) (by first | assumption | omega) (by first | assumption | omega) (by first | assumption | omega) (hP.sub [0, 1, 2, 3, 4, 5] rfl)) (cwV 3 hts gX9_movedBits_X9_level rfl rfl rfl (by decide +kernel) ⟨Nat.le_of_ble_eq_true rfl, Nat.le_of_ble_eq_true rfl⟩) (preV hC hS hLo hP (ci := 8) (q0 := 0) rfl rfl) rfl rfl hl.1 rfl (lv_room (Nat.le_of_ble_eq_true rfl)) dX9_movedBits_25 ⟨Nat.zero_le _, Nat.zero_le _⟩) hS (fun locs hS => ?_)
        refine topE (v' := iI (lv (DFm (dS ss) (tS ss) b mv i) q)) (rfl) ?_
        refine kPi (va_runS (As := [.int (iI (lv (DFm (dS ss) (tS ss) b mv i) q))]) (rest := [.int (nI (6 + LM (dS ss) (tS ss) b mv q i))]) ⟨hx, hb, hml, hown, hts⟩ (c_X9_bitsOf (lv (DFm (dS ss) (tS ss) b mv i) q) (by first | assumption | omega)) (va_cwS 1 hts gX9_movedBits_X9_bitsOf rfl rfl rfl (by decide +kernel) ⟨Nat.le_of_ble_eq_true rfl, Nat.le_of_ble_eq_true rfl⟩) (preS hC hS hLo) rfl rfl hl.1 rfl (lv_room (Nat.le_of_ble_eq_true rfl)) dX9_movedBits_28 ⟨Nat.zero_le _, Nat.zero_le _⟩) hS (fun locs hS => ?_)
        refine gAdd (z := nI ((6 + LM (dS ss) (tS ss) b mv q i) + (lbits (lv (DFm (dS ss) (tS ss) b mv i) q)))) hx hb dX9_movedBits_31 (nI_add _ _) ?_
        refine lv_istore (lv' := [(4, .int (nI ((6 + LM (dS ss) (tS ss) b mv q i) + (lbits (lv (DFm (dS ss) (tS ss) b mv i) q))))), (0, .ref mh), (1, .int (nI (b))), (2, .int (nI (mv))), (3, .int (nI (q))), (5, .int (nI (i)))]) hx hb dX9_movedBits_32 hl (by decide) rfl (fun ls hl => ?_)
        refine lv_iinc (v := nI (i + 1)) (lv' := [(5, .int (nI (i + 1))), (4, .int (nI ((6 + LM (dS ss) (tS ss) b mv q i) + (lbits (lv (DFm (dS ss) (tS ss) b mv i) q))))), (0, .ref mh), (1, .int (nI (b))), (2, .int (nI (mv))), (3, .int (nI (q)))]) hx hb dX9_movedBits_34 hl (k := 5) rfl (inc_p i 1) (by decide) rfl (fun ls hl => ?_)
        refine lv_goto (tgt := 7) hx hb dX9_movedBits_37 (by decide) ?_
        exact ih_7 (i + 1) (by omega) (by omega) locs ls hS (lv_sub hl [2, 3, 4, 5, 1, 0] ((lvc rfl (lvc rfl (lvc rfl (lvc rfl (lvc (congrArg Value.int (congrArg nI (Nat.add_assoc 6 _ _))) (lvc rfl rfl))))))))
  exact L_7 (16 + 1) 0 (Nat.lt_succ_self _) (by omega) locs ls hS (lv_sub hl [2, 3, 4, 5, 1, 0] (lvc rfl (lvc rfl (lvc rfl (lvc rfl (lvc (congrArg Value.int (rfl)) (lvc rfl rfl)))))))

set_option maxHeartbeats 4000000 in
set_option maxRecDepth 100000 in
theorem c_X9_kind {l : Launch} {G : GT} {H0 : Heap} (mh m1 m2 m3 m4 m5 : Nat) (ss hi sl : Nat → Int) (tx : Nat → Nat) (ne : Nat → Int) (th : Int32) (kn ke le : Nat) (sp wr si on tw dn : Int32) (b q : Nat) (hMR : MR ss) (hb4 : b < 4) (hq : 1 ≤ q ∧ q ≤ 8) (hP0 : PP G ([(mh, .inr (8, [.int (th), .ref m1, .ref m2, .int (nI (kn)), .ref m3, .int (nI (ke)), .ref m4, .int (nI (le)), .ref m5, .int (sp), .int (wr), .int (si), .int (on), .int (tw), .int (dn)])), (m1, .inl (cI G, 205, .inl (fun z9 => iI (ss z9)))), (m2, .inl (cI G, 1230, .inl (fun z9 => iI (hi z9)))), (m3, .inl (cI G, 410, .inl (fun z9 => iI (sl z9)))), (m4, .inl (cI G, 80, .inl (fun z9 => nI (tx z9)))), (m5, .inl (cI G, 128, .inl (fun z9 => iI (ne z9))))]) H0) : Met l yX9_kind wsX9_kind ({ frames := 5, cells := 0, slots := 0, locals := 114 } : Room) (pcG G [.ref mh, .int (nI (b)), .int (nI (q))] H0) (qPi (nI (KDM (dS ss) (tS ss) b q)) H0) 0 0 noF := by
  refine enter (cc := cX9_kind) (maxL := 6) (ret := some .int) (own := RX9) (lv := [(0, .ref mh), (1, .int (nI (b))), (2, .int (nI (q)))]) (by decide) rfl rfl rfl (Nat.le_of_ble_eq_true rfl) ?_
  intro pg ev s m below meth c hx hb hr hts hown hlocks hml hnm hH hC ls hl
  subst hH
  have hLo : ∀ q, noF q → lo G q := fun _ h => h.elim
  have hS : va_S noF s.heap s.heap [] := va_S.rf
  generalize ([] : List Loc) = locs at hS ⊢
  have hP := hP0
  refine lv_aload_n hx hb dX9_kind_0 rfl (lv_at hl 0 rfl) ?_
  refine lv_iload_n hx hb dX9_kind_1 rfl (lv_at hl 1 rfl) ?_
  refine kPi (va_runV (As := [.int (nI (b))]) (rest := []) ⟨hx, hb, hml, hown, hts⟩ (c_X9_best mh m1 m2 m3 m4 m5 ss hi sl tx ne th kn ke le sp wr si on tw dn b (by first | assumption | omega) (by first | assumption | omega) (hP.sub [0, 1, 2, 3, 4, 5] rfl)) (cwV 1 hts gX9_kind_X9_best rfl rfl rfl (by decide +kernel) ⟨Nat.le_of_ble_eq_true rfl, Nat.le_of_ble_eq_true rfl⟩) (preV hC hS hLo hP (ci := 8) (q0 := 0) rfl rfl) rfl rfl hl.1 rfl (lv_room (Nat.le_of_ble_eq_true rfl)) dX9_kind_2 ⟨Nat.zero_le _, Nat.zero_le _⟩) hS (fun locs hS => ?_)
  refine lv_istore_n (lv' := [(3, .int (nI (BEST (dS ss) (tS ss) b))), (0, .ref mh), (1, .int (nI (b))), (2, .int (nI (q)))]) hx hb dX9_kind_5 rfl hl (by decide) rfl (fun ls hl => ?_)
  have hbl := BEST_lt (dS ss) (tS ss) b
  have hLM := LM_in (MR_d hMR) (MR_t hMR) b (BEST (dS ss) (tS ss) b) hq.1 16
  have hZM := ZM_LM (MR_d hMR) (MR_t hMR) (b := b) (m := (BEST (dS ss) (tS ss) b)) hq.1 16
  have J_17 : ∀ (locs : List Loc) (ls : Array Slot), va_S noF s.heap s.heap locs → lv_has ls 6 [(0, .ref mh), (1, .int (nI (b))), (2, .int (nI (q))), (3, .int (nI (BEST (dS ss) (tS ss) b)))] → W pg l ev ({ frames := 5, cells := 0, slots := 0, locals := 114 } : Room) s m (([.ref mh, .int (nI (b)), .int (nI (q))] : List Value).toArray) below meth c s.heap locs 0 0 (MQ below (qPi (nI (KDM (dS ss) (tS ss) b q)) s.heap) (([.ref mh, .int (nI (b)), .int (nI (q))] : List Value).toArray) s 0 0 noF) (F0 m 17 ls [.int (bI ((BEST (dS ss) (tS ss) b) = 12 ∧ ZM (dS ss) (tS ss) b (BEST (dS ss) (tS ss) b) q 0))]) := by
    intro locs ls hS hl
    refine lv_istore (lv' := [(4, .int (bI ((BEST (dS ss) (tS ss) b) = 12 ∧ ZM (dS ss) (tS ss) b (BEST (dS ss) (tS ss) b) q 0))), (0, .ref mh), (1, .int (nI (b))), (2, .int (nI (q))), (3, .int (nI (BEST (dS ss) (tS ss) b)))]) hx hb dX9_kind_17 hl (by decide) rfl (fun ls hl => ?_)
    refine lv_iconst (v := nI (0)) hx hb dX9_kind_19 (by decide) ?_
    refine lv_istore (lv' := [(5, .int (nI (0))), (4, .int (bI ((BEST (dS ss) (tS ss) b) = 12 ∧ ZM (dS ss) (tS ss) b (BEST (dS ss) (tS ss) b) q 0))), (0, .ref mh), (1, .int (nI (b))), (2, .int (nI (q))), (3, .int (nI (BEST (dS ss) (tS ss) b)))]) hx hb dX9_kind_20 hl (by decide) rfl (fun ls hl => ?_)
    have L_22 : ∀ (n_22 : Nat) (i : Nat), 16 - i < n_22 → (i ≤ 16) → ∀ (locs : List Loc) (ls : Array Slot), va_S noF s.heap s.heap locs → lv_has ls 6 [(0, .ref mh), (1, .int (nI (b))), (2, .int (nI (q))), (3, .int (nI (BEST (dS ss) (tS ss) b))), (4, .int (bI ((BEST (dS ss) (tS ss) b) = 12 ∧ ZM (dS ss) (tS ss) b (BEST (dS ss) (tS ss) b) q i))), (5, .int (nI (i)))] → W pg l ev ({ frames := 5, cells := 0, slots := 0, locals := 114 } : Room) s m (([.ref mh, .int (nI (b)), .int (nI (q))] : List Value).toArray) below meth c s.heap locs 0 0 (MQ below (qPi (nI (KDM (dS ss) (tS ss) b q)) s.heap) (([.ref mh, .int (nI (b)), .int (nI (q))] : List Value).toArray) s 0 0 noF) (F0 m 22 ls []) := by
      intro n_22
      induction n_22 with
      | zero => intro i hn; exact absurd hn (Nat.not_lt_zero _)
      | succ n_22 ih_22 =>
        intro i hn_22 hi9 locs ls hS hl
        refine lv_iload hx hb dX9_kind_22 (lv_at hl 5 rfl) ?_
        refine lv_bipush (v := nI (16)) hx hb dX9_kind_24 (by decide) ?_
        refine lv_icmp_ge (tgt := 62) hx hb dX9_kind_26 (by decide) (fun c_1 => ?_) (fun c_1 => ?_)
        · have f_2 : (16 : Int) ≤ ((i : Nat) : Int) := (c_le (nI_toInt (n := 16) (by omega)) (nI_toInt (n := i) (by omega))).mp c_1
          refine lv_iload hx hb dX9_kind_62 (lv_at hl 4 rfl) ?_
          refine lv_if_eq (tgt := 71) hx hb dX9_kind_64 (by decide) (fun c_3 => ?_) (fun c_3 => ?_)
          · have f_4 : ¬ ((BEST (dS ss) (tS ss) b) = 12 ∧ ZM (dS ss) (tS ss) b (BEST (dS ss) (tS ss) b) q i) := bI_0.mp c_3
            refine lv_aload_n hx hb dX9_kind_71 rfl (lv_at hl 0 rfl) ?_
            refine lv_iload_n hx hb dX9_kind_72 rfl (lv_at hl 1 rfl) ?_
            refine lv_iload_n hx hb dX9_kind_73 rfl (lv_at hl 3 rfl) ?_
            refine lv_iload_n hx hb dX9_kind_74 rfl (lv_at hl 2 rfl) ?_
            refine kPi (va_runV (As := [.int (nI (b)), .int (nI (BEST (dS ss) (tS ss) b)), .int (nI (q))]) (rest := []) ⟨hx, hb, hml, hown, hts⟩ (c_X9_movedBits mh m1 m2 m3 m4 m5 ss hi sl tx ne th kn ke le sp wr si on tw dn b (BEST (dS ss) (tS ss) b) q (by first | assumption | omega) (by first | assumption | omega) (by first | assumption | omega) (by first | assumption | omega) (hP.sub [0, 1, 2, 3, 4, 5] rfl)) (cwV 3 hts gX9_kind_X9_movedBits rfl rfl rfl (by decide +kernel) ⟨Nat.le_of_ble_eq_true rfl, Nat.le_of_ble_eq_true rfl⟩) (preV hC hS hLo hP (ci := 8) (q0 := 0) rfl rfl) rfl rfl hl.1 rfl (lv_room (Nat.le_of_ble_eq_true rfl)) dX9_kind_75 ⟨Nat.zero_le _, Nat.zero_le _⟩) hS (fun locs hS => ?_)
            refine lv_bipush (v := nI (66)) hx hb dX9_kind_78 (by decide) ?_
            refine lv_icmp_gt (tgt := 87) hx hb dX9_kind_80 (by decide) (fun c_5 => ?_) (fun c_5 => ?_)
            · have f_6 : (66 : Int) < ((6 + LM (dS ss) (tS ss) b (BEST (dS ss) (tS ss) b) q 16 : Nat) : Int) := (c_lt (nI_toInt (n := 66) (by omega)) (nI_toInt (n := 6 + LM (dS ss) (tS ss) b (BEST (dS ss) (tS ss) b) q 16) (by omega))).mp c_5
              refine lv_iconst (v := nI (0)) hx hb dX9_kind_87 (by decide) ?_
              exact xPi hx hb hr hlocks hS (by exact congrArg nI (kdM_r hZM (by omega) f_4 (by omega))) (by exact rfl) dX9_kind_88
            · have f_7 : ¬ (66 : Int) < ((6 + LM (dS ss) (tS ss) b (BEST (dS ss) (tS ss) b) q 16 : Nat) : Int) := fun z => c_5 ((c_lt (nI_toInt (n := 66) (by omega)) (nI_toInt (n := 6 + LM (dS ss) (tS ss) b (BEST (dS ss) (tS ss) b) q 16) (by omega))).mpr z)
              refine lv_iconst (v := nI (2)) hx hb dX9_kind_83 (by decide) ?_
              refine lv_goto (tgt := 88) hx hb dX9_kind_84 (by decide) ?_
              exact xPi hx hb hr hlocks hS (by exact congrArg nI (kdM_m hZM (by omega) f_4 (by omega))) (by exact rfl) dX9_kind_88
          · have f_8 : ((BEST (dS ss) (tS ss) b) = 12 ∧ ZM (dS ss) (tS ss) b (BEST (dS ss) (tS ss) b) q i) := Classical.byContradiction (fun z => c_3 (bI_0.mpr z))
            refine lv_iconst (v := nI (1)) hx hb dX9_kind_67 (by decide) ?_
            refine lv_goto (tgt := 88) hx hb dX9_kind_68 (by decide) ?_
            exact xPi hx hb hr hlocks hS (by exact congrArg nI (kdM_s hZM (by omega) (by omega) f_8)) (by exact rfl) dX9_kind_88
        · have f_9 : ¬ (16 : Int) ≤ ((i : Nat) : Int) := fun z => c_1 ((c_le (nI_toInt (n := 16) (by omega)) (nI_toInt (n := i) (by omega))).mpr z)
          refine lv_iload hx hb dX9_kind_29 (lv_at hl 4 rfl) ?_
          refine lv_if_eq (tgt := 62) hx hb dX9_kind_31 (by decide) (fun c_10 => ?_) (fun c_10 => ?_)
          · have f_11 : ¬ ((BEST (dS ss) (tS ss) b) = 12 ∧ ZM (dS ss) (tS ss) b (BEST (dS ss) (tS ss) b) q i) := bI_0.mp c_10
            refine lv_iload hx hb dX9_kind_62 (lv_at hl 4 rfl) ?_
            refine lv_if_eq (tgt := 71) hx hb dX9_kind_64 (by decide) (fun c_12 => ?_) (fun c_12 => ?_)
            · have f_13 : ¬ ((BEST (dS ss) (tS ss) b) = 12 ∧ ZM (dS ss) (tS ss) b (BEST (dS ss) (tS ss) b) q i) := bI_0.mp c_12
              refine lv_aload_n hx hb dX9_kind_71 rfl (lv_at hl 0 rfl) ?_
              refine lv_iload_n hx hb dX9_kind_72 rfl (lv_at hl 1 rfl) ?_
              refine lv_iload_n hx hb dX9_kind_73 rfl (lv_at hl 3 rfl) ?_
              refine lv_iload_n hx hb dX9_kind_74 rfl (lv_at hl 2 rfl) ?_
              refine kPi (va_runV (As := [.int (nI (b)), .int (nI (BEST (dS ss) (tS ss) b)), .int (nI (q))]) (rest := []) ⟨hx, hb, hml, hown, hts⟩ (c_X9_movedBits mh m1 m2 m3 m4 m5 ss hi sl tx ne th kn ke le sp wr si on tw dn b (BEST (dS ss) (tS ss) b) q (by first | assumption | omega) (by first | assumption | omega) (by first | assumption | omega) (by first | assumption | omega) (hP.sub [0, 1, 2, 3, 4, 5] rfl)) (cwV 3 hts gX9_kind_X9_movedBits rfl rfl rfl (by decide +kernel) ⟨Nat.le_of_ble_eq_true rfl, Nat.le_of_ble_eq_true rfl⟩) (preV hC hS hLo hP (ci := 8) (q0 := 0) rfl rfl) rfl rfl hl.1 rfl (lv_room (Nat.le_of_ble_eq_true rfl)) dX9_kind_75 ⟨Nat.zero_le _, Nat.zero_le _⟩) hS (fun locs hS => ?_)
              refine lv_bipush (v := nI (66)) hx hb dX9_kind_78 (by decide) ?_
              refine lv_icmp_gt (tgt := 87) hx hb dX9_kind_80 (by decide) (fun c_14 => ?_) (fun c_14 => ?_)
              · have f_15 : (66 : Int) < ((6 + LM (dS ss) (tS ss) b (BEST (dS ss) (tS ss) b) q 16 : Nat) : Int) := (c_lt (nI_toInt (n := 66) (by omega)) (nI_toInt (n := 6 + LM (dS ss) (tS ss) b (BEST (dS ss) (tS ss) b) q 16) (by omega))).mp c_14
                refine lv_iconst (v := nI (0)) hx hb dX9_kind_87 (by decide) ?_
                exact xPi hx hb hr hlocks hS (by exact congrArg nI (kdM_r hZM (by omega) f_13 (by omega))) (by exact rfl) dX9_kind_88
              · have f_16 : ¬ (66 : Int) < ((6 + LM (dS ss) (tS ss) b (BEST (dS ss) (tS ss) b) q 16 : Nat) : Int) := fun z => c_14 ((c_lt (nI_toInt (n := 66) (by omega)) (nI_toInt (n := 6 + LM (dS ss) (tS ss) b (BEST (dS ss) (tS ss) b) q 16) (by omega))).mpr z)
                refine lv_iconst (v := nI (2)) hx hb dX9_kind_83 (by decide) ?_
                refine lv_goto (tgt := 88) hx hb dX9_kind_84 (by decide) ?_
                exact xPi hx hb hr hlocks hS (by exact congrArg nI (kdM_m hZM (by omega) f_13 (by omega))) (by exact rfl) dX9_kind_88
            · have f_17 : ((BEST (dS ss) (tS ss) b) = 12 ∧ ZM (dS ss) (tS ss) b (BEST (dS ss) (tS ss) b) q i) := Classical.byContradiction (fun z => c_12 (bI_0.mpr z))
              exact absurd f_17 f_11
          · have f_18 : ((BEST (dS ss) (tS ss) b) = 12 ∧ ZM (dS ss) (tS ss) b (BEST (dS ss) (tS ss) b) q i) := Classical.byContradiction (fun z => c_10 (bI_0.mpr z))
            have hst := f_18
            have hpx := px_lt hb4 (by omega : i < 16)
            have hlv := lv_in (DFm_in (MR_d hMR) (MR_t hMR) b (BEST (dS ss) (tS ss) b) i) hq.1
            refine lv_aload_n hx hb dX9_kind_34 rfl (lv_at hl 0 rfl) ?_
            refine lv_iload_n hx hb dX9_kind_35 rfl (lv_at hl 1 rfl) ?_
            refine lv_iload hx hb dX9_kind_36 (lv_at hl 5 rfl) ?_
            refine kPi (va_runS (As := [.int (nI (b)), .int (nI (i))]) (rest := [.ref mh]) ⟨hx, hb, hml, hown, hts⟩ (c_X9_pixel b i (by first | assumption | omega) (by first | assumption | omega)) (va_cwS 2 hts gX9_kind_X9_pixel rfl rfl rfl (by decide +kernel) ⟨Nat.le_of_ble_eq_true rfl, Nat.le_of_ble_eq_true rfl⟩) (preS hC hS hLo) rfl rfl hl.1 rfl (lv_room (Nat.le_of_ble_eq_true rfl)) dX9_kind_38 ⟨Nat.zero_le _, Nat.zero_le _⟩) hS (fun locs hS => ?_)
            refine lv_iload_n hx hb dX9_kind_41 rfl (lv_at hl 3 rfl) ?_
            refine lv_iload_n hx hb dX9_kind_42 rfl (lv_at hl 2 rfl) ?_
            have J_54 : ∀ (locs : List Loc) (ls : Array Slot), va_S noF s.heap s.heap locs → lv_has ls 6 [(0, .ref mh), (1, .int (nI (b))), (2, .int (nI (q))), (3, .int (nI (BEST (dS ss) (tS ss) b))), (4, .int (bI ((BEST (dS ss) (tS ss) b) = 12 ∧ ZM (dS ss) (tS ss) b (BEST (dS ss) (tS ss) b) q i))), (5, .int (nI (i)))] → W pg l ev ({ frames := 5, cells := 0, slots := 0, locals := 114 } : Room) s m (([.ref mh, .int (nI (b)), .int (nI (q))] : List Value).toArray) below meth c s.heap locs 0 0 (MQ below (qPi (nI (KDM (dS ss) (tS ss) b q)) s.heap) (([.ref mh, .int (nI (b)), .int (nI (q))] : List Value).toArray) s 0 0 noF) (F0 m 54 ls [.int (bI ((BEST (dS ss) (tS ss) b) = 12 ∧ ZM (dS ss) (tS ss) b (BEST (dS ss) (tS ss) b) q (i + 1)))]) := by
              intro locs ls hS hl
              refine lv_istore (lv' := [(4, .int (bI ((BEST (dS ss) (tS ss) b) = 12 ∧ ZM (dS ss) (tS ss) b (BEST (dS ss) (tS ss) b) q (i + 1)))), (0, .ref mh), (1, .int (nI (b))), (2, .int (nI (q))), (3, .int (nI (BEST (dS ss) (tS ss) b))), (5, .int (nI (i)))]) hx hb dX9_kind_54 hl (by decide) rfl (fun ls hl => ?_)
              refine lv_iinc (v := nI (i + 1)) (lv' := [(5, .int (nI (i + 1))), (4, .int (bI ((BEST (dS ss) (tS ss) b) = 12 ∧ ZM (dS ss) (tS ss) b (BEST (dS ss) (tS ss) b) q (i + 1)))), (0, .ref mh), (1, .int (nI (b))), (2, .int (nI (q))), (3, .int (nI (BEST (dS ss) (tS ss) b)))]) hx hb dX9_kind_56 hl (k := 5) rfl (inc_p i 1) (by decide) rfl (fun ls hl => ?_)
              refine lv_goto (tgt := 22) hx hb dX9_kind_59 (by decide) ?_
              exact ih_22 (i + 1) (by omega) (by omega) locs ls hS (lv_sub hl [2, 3, 4, 5, 1, 0] ((lvc rfl (lvc rfl (lvc rfl (lvc rfl (lvc rfl (lvc rfl rfl))))))))
            refine kPi (va_runV (As := [.int (nI (px b i)), .int (nI (BEST (dS ss) (tS ss) b)), .int (nI (q))]) (rest := []) ⟨hx, hb, hml, hown, hts⟩ (c_X9_level mh m1 m2 m3 m4 m5 ss hi sl tx ne th kn ke le sp wr si on tw dn (px b i) (BEST (dS ss) (tS ss) b) q (by first | assumption | omega) (by first | assumption | omega) (by first | assumption | omega) (by first | assumption | omega) (hP.sub [0, 1, 2, 3, 4, 5] rfl)) (cwV 3 hts gX9_kind_X9_level rfl rfl rfl (by decide +kernel) ⟨Nat.le_of_ble_eq_true rfl, Nat.le_of_ble_eq_true rfl⟩) (preV hC hS hLo hP (ci := 8) (q0 := 0) rfl rfl) rfl rfl hl.1 rfl (lv_room (Nat.le_of_ble_eq_true rfl)) dX9_kind_43 ⟨Nat.zero_le _, Nat.zero_le _⟩) hS (fun locs hS => ?_)
            refine topE (v' := iI (lv (DFm (dS ss) (tS ss) b (BEST (dS ss) (tS ss) b) i) q)) (rfl) ?_
            refine lv_if_ne (tgt := 53) hx hb dX9_kind_46 (by decide) (fun c_19 => ?_) (fun c_19 => ?_)
            · have f_20 : ¬ (lv (DFm (dS ss) (tS ss) b (BEST (dS ss) (tS ss) b) i) q) = (0 : Int) := fun z => c_19 ((c_eq (iI_toInt (by omega) (by omega)) rfl).mpr z)
              refine lv_iconst (v := nI (0)) hx hb dX9_kind_53 (by decide) ?_
              refine topE (v' := bI ((BEST (dS ss) (tS ss) b) = 12 ∧ ZM (dS ss) (tS ss) b (BEST (dS ss) (tS ss) b) q (i + 1))) ((bI_f (fun z => f_20 (z.2 i (Nat.lt_succ_self i)))).symm) ?_
              exact J_54 locs ls hS (lv_sub hl [0, 1, 2, 3, 4, 5] (rfl))
            · have f_21 : (lv (DFm (dS ss) (tS ss) b (BEST (dS ss) (tS ss) b) i) q) = (0 : Int) := (c_eq (iI_toInt (by omega) (by omega)) rfl).mp c_19
              refine lv_iconst (v := nI (1)) hx hb dX9_kind_49 (by decide) ?_
              refine lv_goto (tgt := 54) hx hb dX9_kind_50 (by decide) ?_
              refine topE (v' := bI ((BEST (dS ss) (tS ss) b) = 12 ∧ ZM (dS ss) (tS ss) b (BEST (dS ss) (tS ss) b) q (i + 1))) ((bI_t ⟨hst.1, ZM_s hst.2 (by assumption)⟩).symm) ?_
              exact J_54 locs ls hS (lv_sub hl [0, 1, 2, 3, 4, 5] (rfl))
    exact L_22 (16 + 1) 0 (Nat.lt_succ_self _) (by omega) locs ls hS (lv_sub hl [2, 3, 4, 5, 1, 0] (lvc rfl (lvc rfl (lvc rfl (lvc rfl (lvc rfl (lvc rfl rfl)))))))
  refine lv_iload_n hx hb dX9_kind_6 rfl (lv_at hl 0 rfl) ?_
  refine lv_bipush (v := nI (12)) hx hb dX9_kind_7 (by decide) ?_
  refine lv_icmp_ne (tgt := 16) hx hb dX9_kind_9 (by decide) (fun c_22 => ?_) (fun c_22 => ?_)
  · have f_23 : ¬ ((BEST (dS ss) (tS ss) b : Nat) : Int) = (12 : Int) := fun z => c_22 ((c_eq (nI_toInt (n := BEST (dS ss) (tS ss) b) (by omega)) (nI_toInt (n := 12) (by omega))).mpr z)
    refine lv_iconst (v := nI (0)) hx hb dX9_kind_16 (by decide) ?_
    refine topE (v' := bI ((BEST (dS ss) (tS ss) b) = 12 ∧ ZM (dS ss) (tS ss) b (BEST (dS ss) (tS ss) b) q 0)) (by first | exact (bI_t ⟨by omega, ZM_0 _ _ b _ q⟩).symm | exact (bI_f (fun z => by omega)).symm) ?_
    exact J_17 locs ls hS (lv_sub hl [1, 2, 3, 0] (rfl))
  · have f_24 : ((BEST (dS ss) (tS ss) b : Nat) : Int) = (12 : Int) := (c_eq (nI_toInt (n := BEST (dS ss) (tS ss) b) (by omega)) (nI_toInt (n := 12) (by omega))).mp c_22
    refine lv_iconst (v := nI (1)) hx hb dX9_kind_12 (by decide) ?_
    refine lv_goto (tgt := 17) hx hb dX9_kind_13 (by decide) ?_
    refine topE (v' := bI ((BEST (dS ss) (tS ss) b) = 12 ∧ ZM (dS ss) (tS ss) b (BEST (dS ss) (tS ss) b) q 0)) (by first | exact (bI_t ⟨by omega, ZM_0 _ _ b _ q⟩).symm | exact (bI_f (fun z => by omega)).symm) ?_
    exact J_17 locs ls hS (lv_sub hl [1, 2, 3, 0] (rfl))

set_option maxHeartbeats 4000000 in
set_option maxRecDepth 100000 in
theorem c_X9_bits {l : Launch} {G : GT} {H0 : Heap} (mh m1 m2 m3 m4 m5 : Nat) (ss hi sl : Nat → Int) (tx : Nat → Nat) (ne : Nat → Int) (th : Int32) (kn ke le : Nat) (sp wr si on tw dn : Int32) (b q : Nat) (hMR : MR ss) (hb4 : b < 4) (hq : 1 ≤ q ∧ q ≤ 8) (hP0 : PP G ([(mh, .inr (8, [.int (th), .ref m1, .ref m2, .int (nI (kn)), .ref m3, .int (nI (ke)), .ref m4, .int (nI (le)), .ref m5, .int (sp), .int (wr), .int (si), .int (on), .int (tw), .int (dn)])), (m1, .inl (cI G, 205, .inl (fun z9 => iI (ss z9)))), (m2, .inl (cI G, 1230, .inl (fun z9 => iI (hi z9)))), (m3, .inl (cI G, 410, .inl (fun z9 => iI (sl z9)))), (m4, .inl (cI G, 80, .inl (fun z9 => nI (tx z9)))), (m5, .inl (cI G, 128, .inl (fun z9 => iI (ne z9))))]) H0) : Met l yX9_bits wsX9_bits ({ frames := 6, cells := 0, slots := 0, locals := 139 } : Room) (pcG G [.ref mh, .int (nI (b)), .int (nI (q))] H0) (qPi (nI (BTM (dS ss) (tS ss) b q)) H0) 0 0 noF := by
  refine enter (cc := cX9_bits) (maxL := 4) (ret := some .int) (own := RX9) (lv := [(0, .ref mh), (1, .int (nI (b))), (2, .int (nI (q)))]) (by decide) rfl rfl rfl (Nat.le_of_ble_eq_true rfl) ?_
  intro pg ev s m below meth c hx hb hr hts hown hlocks hml hnm hH hC ls hl
  subst hH
  have hLo : ∀ q, noF q → lo G q := fun _ h => h.elim
  have hS : va_S noF s.heap s.heap [] := va_S.rf
  generalize ([] : List Loc) = locs at hS ⊢
  have hP := hP0
  refine lv_aload_n hx hb dX9_bits_0 rfl (lv_at hl 0 rfl) ?_
  refine lv_iload_n hx hb dX9_bits_1 rfl (lv_at hl 1 rfl) ?_
  refine lv_iload_n hx hb dX9_bits_2 rfl (lv_at hl 2 rfl) ?_
  refine kPi (va_runV (As := [.int (nI (b)), .int (nI (q))]) (rest := []) ⟨hx, hb, hml, hown, hts⟩ (c_X9_kind mh m1 m2 m3 m4 m5 ss hi sl tx ne th kn ke le sp wr si on tw dn b q (by first | assumption | omega) (by first | assumption | omega) (by first | assumption | omega) (hP.sub [0, 1, 2, 3, 4, 5] rfl)) (cwV 2 hts gX9_bits_X9_kind rfl rfl rfl (by decide +kernel) ⟨Nat.le_of_ble_eq_true rfl, Nat.le_of_ble_eq_true rfl⟩) (preV hC hS hLo hP (ci := 8) (q0 := 0) rfl rfl) rfl rfl hl.1 rfl (lv_room (Nat.le_of_ble_eq_true rfl)) dX9_bits_3 ⟨Nat.zero_le _, Nat.zero_le _⟩) hS (fun locs hS => ?_)
  refine lv_istore_n (lv' := [(3, .int (nI (KDM (dS ss) (tS ss) b q))), (0, .ref mh), (1, .int (nI (b))), (2, .int (nI (q)))]) hx hb dX9_bits_6 rfl hl (by decide) rfl (fun ls hl => ?_)
  have hkl := KDM_le (dS ss) (tS ss) b q
  refine lv_iload_n hx hb dX9_bits_7 rfl (lv_at hl 0 rfl) ?_
  refine lv_iconst (v := nI (1)) hx hb dX9_bits_8 (by decide) ?_
  refine lv_icmp_ne (tgt := 16) hx hb dX9_bits_9 (by decide) (fun c_1 => ?_) (fun c_1 => ?_)
  · have f_2 : ¬ ((KDM (dS ss) (tS ss) b q : Nat) : Int) = (1 : Int) := fun z => c_1 ((c_eq (nI_toInt (n := KDM (dS ss) (tS ss) b q) (by omega)) (nI_toInt (n := 1) (by omega))).mpr z)
    refine lv_iload_n hx hb dX9_bits_16 rfl (lv_at hl 0 rfl) ?_
    refine lv_if_ne (tgt := 25) hx hb dX9_bits_17 (by decide) (fun c_3 => ?_) (fun c_3 => ?_)
    · have f_4 : ¬ ((KDM (dS ss) (tS ss) b q : Nat) : Int) = (0 : Int) := fun z => c_3 ((c_eq (nI_toInt (n := KDM (dS ss) (tS ss) b q) (by omega)) rfl).mpr z)
      refine lv_aload_n hx hb dX9_bits_25 rfl (lv_at hl 1 rfl) ?_
      refine lv_iload_n hx hb dX9_bits_26 rfl (lv_at hl 2 rfl) ?_
      refine lv_aload_n hx hb dX9_bits_27 rfl (lv_at hl 1 rfl) ?_
      refine lv_iload_n hx hb dX9_bits_28 rfl (lv_at hl 2 rfl) ?_
      have hbl := BEST_lt (dS ss) (tS ss) b
      refine kPi (va_runV (As := [.int (nI (b))]) (rest := [.int (nI (b)), .ref mh]) ⟨hx, hb, hml, hown, hts⟩ (c_X9_best mh m1 m2 m3 m4 m5 ss hi sl tx ne th kn ke le sp wr si on tw dn b (by first | assumption | omega) (by first | assumption | omega) (hP.sub [0, 1, 2, 3, 4, 5] rfl)) (cwV 1 hts gX9_bits_X9_best rfl rfl rfl (by decide +kernel) ⟨Nat.le_of_ble_eq_true rfl, Nat.le_of_ble_eq_true rfl⟩) (preV hC hS hLo hP (ci := 8) (q0 := 0) rfl rfl) rfl rfl hl.1 rfl (lv_room (Nat.le_of_ble_eq_true rfl)) dX9_bits_29 ⟨Nat.zero_le _, Nat.zero_le _⟩) hS (fun locs hS => ?_)
      refine lv_iload_n hx hb dX9_bits_32 rfl (lv_at hl 3 rfl) ?_
      refine kPi (va_runV (As := [.int (nI (b)), .int (nI (BEST (dS ss) (tS ss) b)), .int (nI (q))]) (rest := []) ⟨hx, hb, hml, hown, hts⟩ (c_X9_movedBits mh m1 m2 m3 m4 m5 ss hi sl tx ne th kn ke le sp wr si on tw dn b (BEST (dS ss) (tS ss) b) q (by first | assumption | omega) (by first | assumption | omega) (by first | assumption | omega) (by first | assumption | omega) (hP.sub [0, 1, 2, 3, 4, 5] rfl)) (cwV 3 hts gX9_bits_X9_movedBits rfl rfl rfl (by decide +kernel) ⟨Nat.le_of_ble_eq_true rfl, Nat.le_of_ble_eq_true rfl⟩) (preV hC hS hLo hP (ci := 8) (q0 := 0) rfl rfl) rfl rfl hl.1 rfl (lv_room (Nat.le_of_ble_eq_true rfl)) dX9_bits_33 ⟨Nat.zero_le _, Nat.zero_le _⟩) hS (fun locs hS => ?_)
      exact xPi hx hb hr hlocks hS (by exact congrArg nI (by first | exact btM_1 (by omega) | exact btM_0 (by omega) | exact btM_2 (by omega) (by omega))) (by exact rfl) dX9_bits_36
    · have f_5 : ((KDM (dS ss) (tS ss) b q : Nat) : Int) = (0 : Int) := (c_eq (nI_toInt (n := KDM (dS ss) (tS ss) b q) (by omega)) rfl).mp c_3
      refine lv_bipush (v := nI (66)) hx hb dX9_bits_20 (by decide) ?_
      refine lv_goto (tgt := 36) hx hb dX9_bits_22 (by decide) ?_
      exact xPi hx hb hr hlocks hS (by exact congrArg nI (by first | exact btM_1 (by omega) | exact btM_0 (by omega) | exact btM_2 (by omega) (by omega))) (by exact rfl) dX9_bits_36
  · have f_6 : ((KDM (dS ss) (tS ss) b q : Nat) : Int) = (1 : Int) := (c_eq (nI_toInt (n := KDM (dS ss) (tS ss) b q) (by omega)) (nI_toInt (n := 1) (by omega))).mp c_1
    refine lv_iconst (v := nI (1)) hx hb dX9_bits_12 (by decide) ?_
    refine lv_goto (tgt := 36) hx hb dX9_bits_13 (by decide) ?_
    exact xPi hx hb hr hlocks hS (by exact congrArg nI (by first | exact btM_1 (by omega) | exact btM_0 (by omega) | exact btM_2 (by omega) (by omega))) (by exact rfl) dX9_bits_36

set_option maxHeartbeats 4000000 in
set_option maxRecDepth 100000 in
theorem c_X9_isKey {l : Launch} {G : GT} {H0 : Heap} (mh m1 m2 m3 m4 m5 : Nat) (ss hi sl : Nat → Int) (tx : Nat → Nat) (ne : Nat → Int) (th : Int32) (kn ke le : Nat) (sp wr si on tw dn : Int32) (hMR : MR ss) (hP0 : PP G ([(mh, .inr (8, [.int (th), .ref m1, .ref m2, .int (nI (kn)), .ref m3, .int (nI (ke)), .ref m4, .int (nI (le)), .ref m5, .int (sp), .int (wr), .int (si), .int (on), .int (tw), .int (dn)])), (m1, .inl (cI G, 205, .inl (fun z9 => iI (ss z9)))), (m2, .inl (cI G, 1230, .inl (fun z9 => iI (hi z9)))), (m3, .inl (cI G, 410, .inl (fun z9 => iI (sl z9)))), (m4, .inl (cI G, 80, .inl (fun z9 => nI (tx z9)))), (m5, .inl (cI G, 128, .inl (fun z9 => iI (ne z9))))]) H0) : Met l yX9_isKey wsX9_isKey ({ frames := 0, cells := 0, slots := 0, locals := 0 } : Room) (pcG G [.ref mh] H0) (qPi (bI ((ss 194).toNat % (ss 193).toNat = 0)) H0) 0 0 noF := by
  refine enter (cc := cX9_isKey) (maxL := 1) (ret := some .boolean) (own := RX9) (lv := [(0, .ref mh)]) (by decide) rfl rfl rfl (Nat.le_of_ble_eq_true rfl) ?_
  intro pg ev s m below meth c hx hb hr hts hown hlocks hml hnm hH hC ls hl
  subst hH
  have hLo : ∀ q, noF q → lo G q := fun _ h => h.elim
  have hS : va_S noF s.heap s.heap [] := va_S.rf
  generalize ([] : List Loc) = locs at hS ⊢
  have hP := hP0
  refine lv_aload_n hx hb dX9_isKey_0 rfl (lv_at hl 0 rfl) ?_
  refine va_get (D := gD G) (cl := vwCl) (tys := tyl G) (ci := 8) (v := .ref m1) (C := RX9) (T := TX9) (N := 15) hx hb hts (by decide +kernel) hown hC.K hP 0 rfl rfl 1 (by decide) (hts (.fieldLink RX9 7 "MotionPostModel" "s" "[I") (by decide +kernel)) (fun _ h9 => h9) rfl dX9_isKey_1 ?_
  refine lv_sipush (v := nI (194)) hx hb dX9_isKey_4 (by decide) ?_
  have hM := hMR.2.2.1
  have hM2 := hMR.2.2.2.1
  have hmod := Nat.mod_lt (ss 194).toNat (show 0 < (ss 193).toNat by omega)
  refine gIald (j := 194) hx hb hC.K hP 1 0 rfl rfl (rfl) (by omega) (by decide) dX9_isKey_7 ?_
  refine topE (v' := nI ((ss 194).toNat)) (by rw [nI_i]; congr 1; omega) ?_
  refine lv_aload_n hx hb dX9_isKey_8 rfl (lv_at hl 0 rfl) ?_
  refine va_get (D := gD G) (cl := vwCl) (tys := tyl G) (ci := 8) (v := .ref m1) (C := RX9) (T := TX9) (N := 15) hx hb hts (by decide +kernel) hown hC.K hP 0 rfl rfl 1 (by decide) (hts (.fieldLink RX9 7 "MotionPostModel" "s" "[I") (by decide +kernel)) (fun _ h9 => h9) rfl dX9_isKey_9 ?_
  refine lv_sipush (v := nI (193)) hx hb dX9_isKey_12 (by decide) ?_
  refine gIald (j := 193) hx hb hC.K hP 1 0 rfl rfl (rfl) (by omega) (by decide) dX9_isKey_15 ?_
  refine topE (v' := nI ((ss 193).toNat)) (by rw [nI_i]; congr 1; omega) ?_
  refine gRem (z := nI (((ss 194).toNat) % ((ss 193).toNat))) hx hb dX9_isKey_16 (nI_ne0 (by omega) (by omega)) (pk_rem (by omega) (by omega) (by omega)) ?_
  refine lv_if_ne (tgt := 24) hx hb dX9_isKey_17 (by decide) (fun c_1 => ?_) (fun c_1 => ?_)
  · have f_2 : ¬ ((((ss 194).toNat) % ((ss 193).toNat) : Nat) : Int) = (0 : Int) := fun z => c_1 ((c_eq (nI_toInt (n := ((ss 194).toNat) % ((ss 193).toNat)) (by omega)) rfl).mpr z)
    refine lv_iconst (v := nI (0)) hx hb dX9_isKey_24 (by decide) ?_
    exact xPi hx hb hr hlocks hS (by exact (by first | exact (bI_t (by omega)).symm | exact (bI_f (by omega)).symm)) (by exact rfl) dX9_isKey_25
  · have f_3 : ((((ss 194).toNat) % ((ss 193).toNat) : Nat) : Int) = (0 : Int) := (c_eq (nI_toInt (n := ((ss 194).toNat) % ((ss 193).toNat)) (by omega)) rfl).mp c_1
    refine lv_iconst (v := nI (1)) hx hb dX9_isKey_20 (by decide) ?_
    refine lv_goto (tgt := 25) hx hb dX9_isKey_21 (by decide) ?_
    exact xPi hx hb hr hlocks hS (by exact (by first | exact (bI_t (by omega)).symm | exact (bI_f (by omega)).symm)) (by exact rfl) dX9_isKey_25

set_option maxHeartbeats 4000000 in
set_option maxRecDepth 100000 in
theorem c_X9_allBits {l : Launch} {G : GT} {H0 : Heap} (mh m1 m2 m3 m4 m5 : Nat) (ss hi sl : Nat → Int) (tx : Nat → Nat) (ne : Nat → Int) (th : Int32) (kn ke le : Nat) (sp wr si on tw dn : Int32) (q : Nat) (hMR : MR ss) (hq : 1 ≤ q ∧ q ≤ 8) (hP0 : PP G ([(mh, .inr (8, [.int (th), .ref m1, .ref m2, .int (nI (kn)), .ref m3, .int (nI (ke)), .ref m4, .int (nI (le)), .ref m5, .int (sp), .int (wr), .int (si), .int (on), .int (tw), .int (dn)])), (m1, .inl (cI G, 205, .inl (fun z9 => iI (ss z9)))), (m2, .inl (cI G, 1230, .inl (fun z9 => iI (hi z9)))), (m3, .inl (cI G, 410, .inl (fun z9 => iI (sl z9)))), (m4, .inl (cI G, 80, .inl (fun z9 => nI (tx z9)))), (m5, .inl (cI G, 128, .inl (fun z9 => iI (ne z9))))]) H0) : Met l yX9_allBits wsX9_allBits ({ frames := 7, cells := 0, slots := 0, locals := 162 } : Room) (pcG G [.ref mh, .int (nI (q))] H0) (qPi (nI (ABM (dS ss) (tS ss) q 4)) H0) 0 0 noF := by
  refine enter (cc := cX9_allBits) (maxL := 4) (ret := some .int) (own := RX9) (lv := [(0, .ref mh), (1, .int (nI (q)))]) (by decide) rfl rfl rfl (Nat.le_of_ble_eq_true rfl) ?_
  intro pg ev s m below meth c hx hb hr hts hown hlocks hml hnm hH hC ls hl
  subst hH
  have hLo : ∀ q, noF q → lo G q := fun _ h => h.elim
  have hS : va_S noF s.heap s.heap [] := va_S.rf
  generalize ([] : List Loc) = locs at hS ⊢
  have hP := hP0
  refine lv_iconst (v := nI (0)) hx hb dX9_allBits_0 (by decide) ?_
  refine lv_istore_n (lv' := [(2, .int (nI (0))), (0, .ref mh), (1, .int (nI (q)))]) hx hb dX9_allBits_1 rfl hl (by decide) rfl (fun ls hl => ?_)
  refine lv_iconst (v := nI (0)) hx hb dX9_allBits_2 (by decide) ?_
  refine lv_istore_n (lv' := [(3, .int (nI (0))), (2, .int (nI (0))), (0, .ref mh), (1, .int (nI (q)))]) hx hb dX9_allBits_3 rfl hl (by decide) rfl (fun ls hl => ?_)
  have L_4 : ∀ (n_4 : Nat) (i : Nat), 4 - i < n_4 → (i ≤ 4) → ∀ (locs : List Loc) (ls : Array Slot), va_S noF s.heap s.heap locs → lv_has ls 4 [(0, .ref mh), (1, .int (nI (q))), (2, .int (nI (ABM (dS ss) (tS ss) q i))), (3, .int (nI (i)))] → W pg l ev ({ frames := 7, cells := 0, slots := 0, locals := 162 } : Room) s m (([.ref mh, .int (nI (q))] : List Value).toArray) below meth c s.heap locs 0 0 (MQ below (qPi (nI (ABM (dS ss) (tS ss) q 4)) s.heap) (([.ref mh, .int (nI (q))] : List Value).toArray) s 0 0 noF) (F0 m 4 ls []) := by
    intro n_4
    induction n_4 with
    | zero => intro i hn; exact absurd hn (Nat.not_lt_zero _)
    | succ n_4 ih_4 =>
      intro i hn_4 hi9 locs ls hS hl
      refine lv_iload_n hx hb dX9_allBits_4 rfl (lv_at hl 3 rfl) ?_
      refine lv_iconst (v := nI (4)) hx hb dX9_allBits_5 (by decide) ?_
      refine lv_icmp_ge (tgt := 24) hx hb dX9_allBits_6 (by decide) (fun c_1 => ?_) (fun c_1 => ?_)
      · have f_2 : (4 : Int) ≤ ((i : Nat) : Int) := (c_le (nI_toInt (n := 4) (by omega)) (nI_toInt (n := i) (by omega))).mp c_1
        have e_i : i = 4 := by omega
        replace e_i := e_i.symm
        subst e_i
        refine lv_iload_n hx hb dX9_allBits_24 rfl (lv_at hl 2 rfl) ?_
        exact xPi hx hb hr hlocks hS (by exact rfl) (by exact rfl) dX9_allBits_25
      · have f_3 : ¬ (4 : Int) ≤ ((i : Nat) : Int) := fun z => c_1 ((c_le (nI_toInt (n := 4) (by omega)) (nI_toInt (n := i) (by omega))).mpr z)
        refine lv_iload_n hx hb dX9_allBits_9 rfl (lv_at hl 2 rfl) ?_
        refine lv_aload_n hx hb dX9_allBits_10 rfl (lv_at hl 0 rfl) ?_
        refine lv_iload_n hx hb dX9_allBits_11 rfl (lv_at hl 3 rfl) ?_
        refine lv_iload_n hx hb dX9_allBits_12 rfl (lv_at hl 1 rfl) ?_
        refine kPi (va_runV (As := [.int (nI (i)), .int (nI (q))]) (rest := [.int (nI (ABM (dS ss) (tS ss) q i))]) ⟨hx, hb, hml, hown, hts⟩ (c_X9_bits mh m1 m2 m3 m4 m5 ss hi sl tx ne th kn ke le sp wr si on tw dn i q (by first | assumption | omega) (by first | assumption | omega) (by first | assumption | omega) (hP.sub [0, 1, 2, 3, 4, 5] rfl)) (cwV 2 hts gX9_allBits_X9_bits rfl rfl rfl (by decide +kernel) ⟨Nat.le_of_ble_eq_true rfl, Nat.le_of_ble_eq_true rfl⟩) (preV hC hS hLo hP (ci := 8) (q0 := 0) rfl rfl) rfl rfl hl.1 rfl (lv_room (Nat.le_of_ble_eq_true rfl)) dX9_allBits_13 ⟨Nat.zero_le _, Nat.zero_le _⟩) hS (fun locs hS => ?_)
        refine gAdd (z := nI ((ABM (dS ss) (tS ss) q i) + (BTM (dS ss) (tS ss) i q))) hx hb dX9_allBits_16 (nI_add _ _) ?_
        refine lv_istore_n (lv' := [(2, .int (nI ((ABM (dS ss) (tS ss) q i) + (BTM (dS ss) (tS ss) i q)))), (0, .ref mh), (1, .int (nI (q))), (3, .int (nI (i)))]) hx hb dX9_allBits_17 rfl hl (by decide) rfl (fun ls hl => ?_)
        refine lv_iinc (v := nI (i + 1)) (lv' := [(3, .int (nI (i + 1))), (2, .int (nI ((ABM (dS ss) (tS ss) q i) + (BTM (dS ss) (tS ss) i q)))), (0, .ref mh), (1, .int (nI (q)))]) hx hb dX9_allBits_18 hl (k := 3) rfl (inc_p i 1) (by decide) rfl (fun ls hl => ?_)
        refine lv_goto (tgt := 4) hx hb dX9_allBits_21 (by decide) ?_
        exact ih_4 (i + 1) (by omega) (by omega) locs ls hS (lv_sub hl [2, 3, 1, 0] ((lvc rfl (lvc rfl (lvc (congrArg Value.int (rfl)) (lvc rfl rfl))))))
  exact L_4 (4 + 1) 0 (Nat.lt_succ_self _) (by omega) locs ls hS (lv_sub hl [2, 3, 1, 0] (lvc rfl (lvc rfl (lvc (congrArg Value.int (rfl)) (lvc rfl rfl)))))

set_option maxHeartbeats 4000000 in
set_option maxRecDepth 100000 in
theorem c_X9_coarseness {l : Launch} {G : GT} {H0 : Heap} (mh m1 m2 m3 m4 m5 : Nat) (ss hi sl : Nat → Int) (tx : Nat → Nat) (ne : Nat → Int) (th : Int32) (kn ke le : Nat) (sp wr si on tw dn : Int32) (hMR : MR ss) (hP0 : PP G ([(mh, .inr (8, [.int (th), .ref m1, .ref m2, .int (nI (kn)), .ref m3, .int (nI (ke)), .ref m4, .int (nI (le)), .ref m5, .int (sp), .int (wr), .int (si), .int (on), .int (tw), .int (dn)])), (m1, .inl (cI G, 205, .inl (fun z9 => iI (ss z9)))), (m2, .inl (cI G, 1230, .inl (fun z9 => iI (hi z9)))), (m3, .inl (cI G, 410, .inl (fun z9 => iI (sl z9)))), (m4, .inl (cI G, 80, .inl (fun z9 => nI (tx z9)))), (m5, .inl (cI G, 128, .inl (fun z9 => iI (ne z9))))]) H0) : Met l yX9_coarseness wsX9_coarseness ({ frames := 8, cells := 0, slots := 0, locals := 185 } : Room) (pcG G [.ref mh] H0) (qPi (nI (COM (dS ss) (tS ss) (ss 192).toNat)) H0) 0 0 noF := by
  refine enter (cc := cX9_coarseness) (maxL := 2) (ret := some .int) (own := RX9) (lv := [(0, .ref mh)]) (by decide) rfl rfl rfl (Nat.le_of_ble_eq_true rfl) ?_
  intro pg ev s m below meth c hx hb hr hts hown hlocks hml hnm hH hC ls hl
  subst hH
  have hLo : ∀ q, noF q → lo G q := fun _ h => h.elim
  have hS : va_S noF s.heap s.heap [] := va_S.rf
  generalize ([] : List Loc) = locs at hS ⊢
  have hP := hP0
  refine lv_iconst (v := nI (1)) hx hb dX9_coarseness_0 (by decide) ?_
  refine lv_istore_n (lv' := [(1, .int (nI (1))), (0, .ref mh)]) hx hb dX9_coarseness_1 rfl hl (by decide) rfl (fun ls hl => ?_)
  have L_2 : ∀ (n_2 : Nat) (c9 : Nat), 8 - c9 < n_2 → (1 ≤ c9 ∧ c9 ≤ 8) → (cz (fun q9 => ABM (dS ss) (tS ss) q9 4) (ss 192).toNat 7 1 = cz (fun q9 => ABM (dS ss) (tS ss) q9 4) (ss 192).toNat (8 - c9) c9) → ∀ (locs : List Loc) (ls : Array Slot), va_S noF s.heap s.heap locs → lv_has ls 2 [(0, .ref mh), (1, .int (nI (c9)))] → W pg l ev ({ frames := 8, cells := 0, slots := 0, locals := 185 } : Room) s m (([.ref mh] : List Value).toArray) below meth c s.heap locs 0 0 (MQ below (qPi (nI (COM (dS ss) (tS ss) (ss 192).toNat)) s.heap) (([.ref mh] : List Value).toArray) s 0 0 noF) (F0 m 2 ls []) := by
    intro n_2
    induction n_2 with
    | zero => intro c9 hn; exact absurd hn (Nat.not_lt_zero _)
    | succ n_2 ih_2 =>
      intro c9 hn_2 hc hcz locs ls hS hl
      refine lv_iload_n hx hb dX9_coarseness_2 rfl (lv_at hl 1 rfl) ?_
      refine lv_bipush (v := nI (8)) hx hb dX9_coarseness_3 (by decide) ?_
      refine lv_icmp_ge (tgt := 30) hx hb dX9_coarseness_5 (by decide) (fun c_1 => ?_) (fun c_1 => ?_)
      · have f_2 : (8 : Int) ≤ ((c9 : Nat) : Int) := (c_le (nI_toInt (n := 8) (by omega)) (nI_toInt (n := c9) (by omega))).mp c_1
        refine lv_iload_n hx hb dX9_coarseness_30 rfl (lv_at hl 1 rfl) ?_
        exact xPi hx hb hr hlocks hS (by exact congrArg nI (hcz.trans (by first | exact cz_e (by omega) | exact cz_x (by show ¬ _ < ABM _ _ _ _; omega))).symm) (by exact rfl) dX9_coarseness_31
      · have f_3 : ¬ (8 : Int) ≤ ((c9 : Nat) : Int) := fun z => c_1 ((c_le (nI_toInt (n := 8) (by omega)) (nI_toInt (n := c9) (by omega))).mpr z)
        refine lv_aload_n hx hb dX9_coarseness_8 rfl (lv_at hl 0 rfl) ?_
        refine lv_iload_n hx hb dX9_coarseness_9 rfl (lv_at hl 1 rfl) ?_
        refine kPi (va_runV (As := [.int (nI (c9))]) (rest := []) ⟨hx, hb, hml, hown, hts⟩ (c_X9_allBits mh m1 m2 m3 m4 m5 ss hi sl tx ne th kn ke le sp wr si on tw dn c9 (by first | assumption | omega) (by first | assumption | omega) (hP.sub [0, 1, 2, 3, 4, 5] rfl)) (cwV 1 hts gX9_coarseness_X9_allBits rfl rfl rfl (by decide +kernel) ⟨Nat.le_of_ble_eq_true rfl, Nat.le_of_ble_eq_true rfl⟩) (preV hC hS hLo hP (ci := 8) (q0 := 0) rfl rfl) rfl rfl hl.1 rfl (lv_room (Nat.le_of_ble_eq_true rfl)) dX9_coarseness_10 ⟨Nat.zero_le _, Nat.zero_le _⟩) hS (fun locs hS => ?_)
        refine lv_aload_n hx hb dX9_coarseness_13 rfl (lv_at hl 0 rfl) ?_
        refine va_get (D := gD G) (cl := vwCl) (tys := tyl G) (ci := 8) (v := .ref m1) (C := RX9) (T := TX9) (N := 15) hx hb hts (by decide +kernel) hown hC.K hP 0 rfl rfl 1 (by decide) (hts (.fieldLink RX9 7 "MotionPostModel" "s" "[I") (by decide +kernel)) (fun _ h9 => h9) rfl dX9_coarseness_14 ?_
        refine lv_sipush (v := nI (192)) hx hb dX9_coarseness_17 (by decide) ?_
        have hM := hMR.2.1
        refine gIald (j := 192) hx hb hC.K hP 1 0 rfl rfl (rfl) (by omega) (by decide) dX9_coarseness_20 ?_
        refine topE (v' := nI ((ss 192).toNat)) (by rw [nI_i]; congr 1; omega) ?_
        have hwb := ABM_le (dS ss) (tS ss) c9 4
        refine lv_icmp_le (tgt := 30) hx hb dX9_coarseness_21 (by decide) (fun c_4 => ?_) (fun c_4 => ?_)
        · have f_5 : ((ABM (dS ss) (tS ss) c9 4 : Nat) : Int) ≤ (((ss 192).toNat : Nat) : Int) := (c_le (nI_toInt (n := ABM (dS ss) (tS ss) c9 4) (by omega)) (nI_toInt (n := (ss 192).toNat) (by omega))).mp c_4
          refine lv_iload_n hx hb dX9_coarseness_30 rfl (lv_at hl 1 rfl) ?_
          exact xPi hx hb hr hlocks hS (by exact congrArg nI (hcz.trans (by first | exact cz_e (by omega) | exact cz_x (by show ¬ _ < ABM _ _ _ _; omega))).symm) (by exact rfl) dX9_coarseness_31
        · have f_6 : ¬ ((ABM (dS ss) (tS ss) c9 4 : Nat) : Int) ≤ (((ss 192).toNat : Nat) : Int) := fun z => c_4 ((c_le (nI_toInt (n := ABM (dS ss) (tS ss) c9 4) (by omega)) (nI_toInt (n := (ss 192).toNat) (by omega))).mpr z)
          refine lv_iinc (v := nI (c9 + 1)) (lv' := [(1, .int (nI (c9 + 1))), (0, .ref mh)]) hx hb dX9_coarseness_24 hl (k := 1) rfl (inc_p c9 1) (by decide) rfl (fun ls hl => ?_)
          refine lv_goto (tgt := 2) hx hb dX9_coarseness_27 (by decide) ?_
          exact ih_2 (c9 + 1) (by omega) (by omega) (hcz.trans (cz_s (by omega) (by show _ < ABM _ _ _ _; omega))) locs ls hS (lv_sub hl [1, 0] ((lvc rfl (lvc rfl rfl))))
  exact L_2 (7 + 1) 1 (Nat.lt_succ_self _) (by omega) rfl locs ls hS (lv_sub hl [1, 0] (lvc rfl (lvc rfl rfl)))

set_option maxHeartbeats 4000000 in
set_option maxRecDepth 100000 in
theorem c_X9_draws {l : Launch} {G : GT} {H0 : Heap} (mh m1 m2 m3 m4 m5 : Nat) (ss hi sl : Nat → Int) (tx : Nat → Nat) (ne : Nat → Int) (th : Int32) (kn ke le : Nat) (sp wr si on tw dn : Int32) (p : Nat) (w : Int) (hp : p < 64) (hP0 : PP G ([(mh, .inr (8, [.int (th), .ref m1, .ref m2, .int (nI (kn)), .ref m3, .int (nI (ke)), .ref m4, .int (nI (le)), .ref m5, .int (sp), .int (wr), .int (si), .int (on), .int (tw), .int (dn)])), (m1, .inl (cI G, 205, .inl (fun z9 => iI (ss z9)))), (m2, .inl (cI G, 1230, .inl (fun z9 => iI (hi z9)))), (m3, .inl (cI G, 410, .inl (fun z9 => iI (sl z9)))), (m4, .inl (cI G, 80, .inl (fun z9 => nI (tx z9)))), (m5, .inl (cI G, 128, .inl (fun z9 => iI (ne z9))))]) H0) (hB0 : va_D (lo G) ([(mh, .inr (8, [.int (th), .ref m1, .ref m2, .int (nI (kn)), .ref m3, .int (nI (ke)), .ref m4, .int (nI (le)), .ref m5, .int (sp), .int (wr), .int (si), .int (on), .int (tw), .int (dn)])), (m1, .inl (cI G, 205, .inl (fun z9 => iI (ss z9)))), (m2, .inl (cI G, 1230, .inl (fun z9 => iI (hi z9)))), (m3, .inl (cI G, 410, .inl (fun z9 => iI (sl z9)))), (m4, .inl (cI G, 80, .inl (fun z9 => nI (tx z9)))), (m5, .inl (cI G, 128, .inl (fun z9 => iI (ne z9))))])) : Met l yX9_draws wsX9_draws ({ frames := 0, cells := 0, slots := 0, locals := 0 } : Room) (pcG G [.ref mh, .int (nI (p)), .int (iI (w))] H0) (qMi G (fun (r : Int32) (u : Unit) => r = iI (ss p)) (fun (u : Unit) => [(mh, .inr (8, [.int (th), .ref m1, .ref m2, .int (nI (kn)), .ref m3, .int (nI (ke)), .ref m4, .int (nI (le)), .ref m5, .int (sp), .int (wr), .int (si), .int (on), .int (tw), .int (dn)])), (m1, .inl (cI G, 205, .inl (fun z9 => iI ((va_up ss p w) z9)))), (m2, .inl (cI G, 1230, .inl (fun z9 => iI (hi z9)))), (m3, .inl (cI G, 410, .inl (fun z9 => iI (sl z9)))), (m4, .inl (cI G, 80, .inl (fun z9 => nI (tx z9)))), (m5, .inl (cI G, 128, .inl (fun z9 => iI (ne z9))))]) ([(mh, .inr (8, [.int (th), .ref m1, .ref m2, .int (nI (kn)), .ref m3, .int (nI (ke)), .ref m4, .int (nI (le)), .ref m5, .int (sp), .int (wr), .int (si), .int (on), .int (tw), .int (dn)])), (m1, .inl (cI G, 205, .inl (fun z9 => iI (ss z9)))), (m2, .inl (cI G, 1230, .inl (fun z9 => iI (hi z9)))), (m3, .inl (cI G, 410, .inl (fun z9 => iI (sl z9)))), (m4, .inl (cI G, 80, .inl (fun z9 => nI (tx z9)))), (m5, .inl (cI G, 128, .inl (fun z9 => iI (ne z9))))]) H0) 0 0 (va_A ([(mh, .inr (8, [.int (th), .ref m1, .ref m2, .int (nI (kn)), .ref m3, .int (nI (ke)), .ref m4, .int (nI (le)), .ref m5, .int (sp), .int (wr), .int (si), .int (on), .int (tw), .int (dn)])), (m1, .inl (cI G, 205, .inl (fun z9 => iI (ss z9)))), (m2, .inl (cI G, 1230, .inl (fun z9 => iI (hi z9)))), (m3, .inl (cI G, 410, .inl (fun z9 => iI (sl z9)))), (m4, .inl (cI G, 80, .inl (fun z9 => nI (tx z9)))), (m5, .inl (cI G, 128, .inl (fun z9 => iI (ne z9))))]) H0.size) := by
  refine enter (cc := cX9_draws) (maxL := 4) (ret := some .int) (own := RX9) (lv := [(0, .ref mh), (1, .int (nI (p))), (2, .int (iI (w)))]) (by decide) rfl rfl rfl (Nat.le_of_ble_eq_true rfl) ?_
  intro pg ev s m below meth c hx hb hr hts hown hlocks hml hnm hH hC ls hl
  subst hH
  have hLo := va_freeB hB0 hC.2.2.2.1
  have hD := hB0.self (sz := s.heap.size)
  have hS : va_S (va_A ([(mh, .inr (8, [.int (th), .ref m1, .ref m2, .int (nI (kn)), .ref m3, .int (nI (ke)), .ref m4, .int (nI (le)), .ref m5, .int (sp), .int (wr), .int (si), .int (on), .int (tw), .int (dn)])), (m1, .inl (cI G, 205, .inl (fun z9 => iI (ss z9)))), (m2, .inl (cI G, 1230, .inl (fun z9 => iI (hi z9)))), (m3, .inl (cI G, 410, .inl (fun z9 => iI (sl z9)))), (m4, .inl (cI G, 80, .inl (fun z9 => nI (tx z9)))), (m5, .inl (cI G, 128, .inl (fun z9 => iI (ne z9))))]) s.heap.size) s.heap s.heap [] := va_S.rf
  unfold qMi
  generalize hAe : va_A ([(mh, .inr (8, [.int (th), .ref m1, .ref m2, .int (nI (kn)), .ref m3, .int (nI (ke)), .ref m4, .int (nI (le)), .ref m5, .int (sp), .int (wr), .int (si), .int (on), .int (tw), .int (dn)])), (m1, .inl (cI G, 205, .inl (fun z9 => iI (ss z9)))), (m2, .inl (cI G, 1230, .inl (fun z9 => iI (hi z9)))), (m3, .inl (cI G, 410, .inl (fun z9 => iI (sl z9)))), (m4, .inl (cI G, 80, .inl (fun z9 => nI (tx z9)))), (m5, .inl (cI G, 128, .inl (fun z9 => iI (ne z9))))]) s.heap.size = A at hD hLo hS ⊢
  have hA : ∀ q, s.heap.size ≤ q → A q := fun q h => by rw [← hAe]; exact Or.inr h
  generalize ([] : List Loc) = locs at hS ⊢
  have hP := hP0
  refine lv_aload_n hx hb dX9_draws_0 rfl (lv_at hl 0 rfl) ?_
  refine va_get (D := gD G) (cl := vwCl) (tys := tyl G) (ci := 8) (v := .ref m1) (C := RX9) (T := TX9) (N := 15) hx hb hts (by decide +kernel) hown hC.K hP 0 rfl rfl 1 (by decide) (hts (.fieldLink RX9 7 "MotionPostModel" "s" "[I") (by decide +kernel)) (fun _ h9 => h9) rfl dX9_draws_1 ?_
  refine lv_iconst (v := nI (0)) hx hb dX9_draws_4 (by decide) ?_
  refine lv_iload_n hx hb dX9_draws_5 rfl (lv_at hl 1 rfl) ?_
  refine gAdd (z := nI (p)) hx hb dX9_draws_6 ((nI_add 0 _).trans (congrArg nI (Nat.zero_add _))) ?_
  refine gIald (j := p) hx hb hC.K hP 1 0 rfl rfl (rfl) (by omega) (by decide) dX9_draws_7 ?_
  refine lv_istore_n (lv' := [(3, .int (iI (ss p))), (0, .ref mh), (1, .int (nI (p))), (2, .int (iI (w)))]) hx hb dX9_draws_8 rfl hl (by decide) rfl (fun ls hl => ?_)
  refine lv_aload_n hx hb dX9_draws_9 rfl (lv_at hl 1 rfl) ?_
  refine va_get (D := gD G) (cl := vwCl) (tys := tyl G) (ci := 8) (v := .ref m1) (C := RX9) (T := TX9) (N := 15) hx hb hts (by decide +kernel) hown hC.K hP 0 rfl rfl 1 (by decide) (hts (.fieldLink RX9 7 "MotionPostModel" "s" "[I") (by decide +kernel)) (fun _ h9 => h9) rfl dX9_draws_10 ?_
  refine lv_iconst (v := nI (0)) hx hb dX9_draws_13 (by decide) ?_
  refine lv_iload_n hx hb dX9_draws_14 rfl (lv_at hl 2 rfl) ?_
  refine gAdd (z := nI (p)) hx hb dX9_draws_15 ((nI_add 0 _).trans (congrArg nI (Nat.zero_add _))) ?_
  refine lv_iload_n hx hb dX9_draws_16 rfl (lv_at hl 3 rfl) ?_
  refine gIast (j := p) (f' := fun z9 => iI ((va_up ss p (w)) z9)) hx hb hC.K hP hD hS 1 0 rfl rfl (rfl) (by omega) (by decide) (upz_Z _ _ _) dX9_draws_17 (fun H locs hP hD hS => ?_)
  have hP : PP G ([(mh, .inr (8, [.int (th), .ref m1, .ref m2, .int (nI (kn)), .ref m3, .int (nI (ke)), .ref m4, .int (nI (le)), .ref m5, .int (sp), .int (wr), .int (si), .int (on), .int (tw), .int (dn)])), (m1, .inl (cI G, 205, .inl (fun z9 => iI ((va_up ss p (w)) z9)))), (m2, .inl (cI G, 1230, .inl (fun z9 => iI (hi z9)))), (m3, .inl (cI G, 410, .inl (fun z9 => iI (sl z9)))), (m4, .inl (cI G, 80, .inl (fun z9 => nI (tx z9)))), (m5, .inl (cI G, 128, .inl (fun z9 => iI (ne z9))))]) H := hP
  have hD : va_D A ([(mh, .inr (8, [.int (th), .ref m1, .ref m2, .int (nI (kn)), .ref m3, .int (nI (ke)), .ref m4, .int (nI (le)), .ref m5, .int (sp), .int (wr), .int (si), .int (on), .int (tw), .int (dn)])), (m1, .inl (cI G, 205, .inl (fun z9 => iI ((va_up ss p (w)) z9)))), (m2, .inl (cI G, 1230, .inl (fun z9 => iI (hi z9)))), (m3, .inl (cI G, 410, .inl (fun z9 => iI (sl z9)))), (m4, .inl (cI G, 80, .inl (fun z9 => nI (tx z9)))), (m5, .inl (cI G, 128, .inl (fun z9 => iI (ne z9))))]) := hD
  refine lv_iload_n hx hb dX9_draws_18 rfl (lv_at hl 0 rfl) ?_
  exact xMi (G := G) (post := (fun (r : Int32) (u : Unit) => r = iI (ss p))) (w1 := (fun (u : Unit) => [(mh, .inr (8, [.int (th), .ref m1, .ref m2, .int (nI (kn)), .ref m3, .int (nI (ke)), .ref m4, .int (nI (le)), .ref m5, .int (sp), .int (wr), .int (si), .int (on), .int (tw), .int (dn)])), (m1, .inl (cI G, 205, .inl (fun z9 => iI ((va_up ss p w) z9)))), (m2, .inl (cI G, 1230, .inl (fun z9 => iI (hi z9)))), (m3, .inl (cI G, 410, .inl (fun z9 => iI (sl z9)))), (m4, .inl (cI G, 80, .inl (fun z9 => nI (tx z9)))), (m5, .inl (cI G, 128, .inl (fun z9 => iI (ne z9))))])) (()) hx hb hr hlocks hP hS (by exact rfl) (by exact rfl) dX9_draws_19

set_option maxHeartbeats 4000000 in
set_option maxRecDepth 100000 in
theorem c_X9_record {l : Launch} {G : GT} {H0 : Heap} (mh m1 m2 m3 m4 m5 : Nat) (ss hi sl : Nat → Int) (tx : Nat → Nat) (ne : Nat → Int) (th : Int32) (kn ke le : Nat) (sp wr si on tw dn : Int32) (hkn : kn ≤ 6) (hP0 : PP G ([(mh, .inr (8, [.int (th), .ref m1, .ref m2, .int (nI (kn)), .ref m3, .int (nI (ke)), .ref m4, .int (nI (le)), .ref m5, .int (sp), .int (wr), .int (si), .int (on), .int (tw), .int (dn)])), (m1, .inl (cI G, 205, .inl (fun z9 => iI (ss z9)))), (m2, .inl (cI G, 1230, .inl (fun z9 => iI (hi z9)))), (m3, .inl (cI G, 410, .inl (fun z9 => iI (sl z9)))), (m4, .inl (cI G, 80, .inl (fun z9 => nI (tx z9)))), (m5, .inl (cI G, 128, .inl (fun z9 => iI (ne z9))))]) H0) (hB0 : va_D (lo G) ([(mh, .inr (8, [.int (th), .ref m1, .ref m2, .int (nI (kn)), .ref m3, .int (nI (ke)), .ref m4, .int (nI (le)), .ref m5, .int (sp), .int (wr), .int (si), .int (on), .int (tw), .int (dn)])), (m1, .inl (cI G, 205, .inl (fun z9 => iI (ss z9)))), (m2, .inl (cI G, 1230, .inl (fun z9 => iI (hi z9)))), (m3, .inl (cI G, 410, .inl (fun z9 => iI (sl z9)))), (m4, .inl (cI G, 80, .inl (fun z9 => nI (tx z9)))), (m5, .inl (cI G, 128, .inl (fun z9 => iI (ne z9))))])) : Met l yX9_record wsX9_record ({ frames := 0, cells := 0, slots := 0, locals := 0 } : Room) (pcG G [.ref mh] H0) (qMv G (fun (u : Unit) => u = ()) (fun (u : Unit) => [(mh, .inr (8, [.int (th), .ref m1, .ref m2, .int (nI (min (kn + 1) 6)), .ref m3, .int (nI (ke)), .ref m4, .int (nI (le)), .ref m5, .int (sp), .int (wr), .int (si), .int (on), .int (tw), .int (dn)])), (m1, .inl (cI G, 205, .inl (fun z9 => iI (ss z9)))), (m2, .inl (cI G, 1230, .inl (fun z9 => iI ((recH hi ss kn) z9)))), (m3, .inl (cI G, 410, .inl (fun z9 => iI (sl z9)))), (m4, .inl (cI G, 80, .inl (fun z9 => nI (tx z9)))), (m5, .inl (cI G, 128, .inl (fun z9 => iI (ne z9))))]) ([(mh, .inr (8, [.int (th), .ref m1, .ref m2, .int (nI (kn)), .ref m3, .int (nI (ke)), .ref m4, .int (nI (le)), .ref m5, .int (sp), .int (wr), .int (si), .int (on), .int (tw), .int (dn)])), (m1, .inl (cI G, 205, .inl (fun z9 => iI (ss z9)))), (m2, .inl (cI G, 1230, .inl (fun z9 => iI (hi z9)))), (m3, .inl (cI G, 410, .inl (fun z9 => iI (sl z9)))), (m4, .inl (cI G, 80, .inl (fun z9 => nI (tx z9)))), (m5, .inl (cI G, 128, .inl (fun z9 => iI (ne z9))))]) H0) 0 0 (va_A ([(mh, .inr (8, [.int (th), .ref m1, .ref m2, .int (nI (kn)), .ref m3, .int (nI (ke)), .ref m4, .int (nI (le)), .ref m5, .int (sp), .int (wr), .int (si), .int (on), .int (tw), .int (dn)])), (m1, .inl (cI G, 205, .inl (fun z9 => iI (ss z9)))), (m2, .inl (cI G, 1230, .inl (fun z9 => iI (hi z9)))), (m3, .inl (cI G, 410, .inl (fun z9 => iI (sl z9)))), (m4, .inl (cI G, 80, .inl (fun z9 => nI (tx z9)))), (m5, .inl (cI G, 128, .inl (fun z9 => iI (ne z9))))]) H0.size) := by
  refine enter (cc := cX9_record) (maxL := 2) (ret := none) (own := RX9) (lv := [(0, .ref mh)]) (by decide) rfl rfl rfl (Nat.le_of_ble_eq_true rfl) ?_
  intro pg ev s m below meth c hx hb hr hts hown hlocks hml hnm hH hC ls hl
  subst hH
  have hLo := va_freeB hB0 hC.2.2.2.1
  have hD := hB0.self (sz := s.heap.size)
  have hS : va_S (va_A ([(mh, .inr (8, [.int (th), .ref m1, .ref m2, .int (nI (kn)), .ref m3, .int (nI (ke)), .ref m4, .int (nI (le)), .ref m5, .int (sp), .int (wr), .int (si), .int (on), .int (tw), .int (dn)])), (m1, .inl (cI G, 205, .inl (fun z9 => iI (ss z9)))), (m2, .inl (cI G, 1230, .inl (fun z9 => iI (hi z9)))), (m3, .inl (cI G, 410, .inl (fun z9 => iI (sl z9)))), (m4, .inl (cI G, 80, .inl (fun z9 => nI (tx z9)))), (m5, .inl (cI G, 128, .inl (fun z9 => iI (ne z9))))]) s.heap.size) s.heap s.heap [] := va_S.rf
  unfold qMv
  generalize hAe : va_A ([(mh, .inr (8, [.int (th), .ref m1, .ref m2, .int (nI (kn)), .ref m3, .int (nI (ke)), .ref m4, .int (nI (le)), .ref m5, .int (sp), .int (wr), .int (si), .int (on), .int (tw), .int (dn)])), (m1, .inl (cI G, 205, .inl (fun z9 => iI (ss z9)))), (m2, .inl (cI G, 1230, .inl (fun z9 => iI (hi z9)))), (m3, .inl (cI G, 410, .inl (fun z9 => iI (sl z9)))), (m4, .inl (cI G, 80, .inl (fun z9 => nI (tx z9)))), (m5, .inl (cI G, 128, .inl (fun z9 => iI (ne z9))))]) s.heap.size = A at hD hLo hS ⊢
  have hA : ∀ q, s.heap.size ≤ q → A q := fun q h => by rw [← hAe]; exact Or.inr h
  generalize ([] : List Loc) = locs at hS ⊢
  have hP := hP0
  refine lv_aload_n hx hb dX9_record_0 rfl (lv_at hl 0 rfl) ?_
  refine va_get (D := gD G) (cl := vwCl) (tys := tyl G) (ci := 8) (v := .int (nI (kn))) (C := RX9) (T := TX9) (N := 15) hx hb hts (by decide +kernel) hown hC.K hP 0 rfl rfl 3 (by decide) (hts (.fieldLink RX9 33 "MotionPostModel" "known" "I") (by decide +kernel)) (fun _ h9 => h9) rfl dX9_record_1 ?_
  refine lv_bipush (v := nI (6)) hx hb dX9_record_4 (by decide) ?_
  refine lv_icmp_ne (tgt := 50) hx hb dX9_record_6 (by decide) (fun c_1 => ?_) (fun c_1 => ?_)
  · have f_2 : ¬ ((kn : Nat) : Int) = (6 : Int) := fun z => c_1 ((c_eq (nI_toInt (n := kn) (by omega)) (nI_toInt (n := 6) (by omega))).mpr z)
    refine lv_iconst (v := nI (0)) hx hb dX9_record_50 (by decide) ?_
    refine lv_istore_n (lv' := [(1, .int (nI (0))), (0, .ref mh)]) hx hb dX9_record_51 rfl hl (by decide) rfl (fun ls hl => ?_)
    have L_52 : ∀ (n_52 : Nat) (i : Nat), 205 - i < n_52 → (i ≤ 205) → ∀ (H : Heap) (locs : List Loc) (ls : Array Slot), PP G ([(mh, .inr (8, [.int (th), .ref m1, .ref m2, .int (nI (kn)), .ref m3, .int (nI (ke)), .ref m4, .int (nI (le)), .ref m5, .int (sp), .int (wr), .int (si), .int (on), .int (tw), .int (dn)])), (m1, .inl (cI G, 205, .inl (fun z9 => iI (ss z9)))), (m2, .inl (cI G, 1230, .inl (fun z9 => iI ((cpH (hi) ss (205 * (kn)) i) z9)))), (m3, .inl (cI G, 410, .inl (fun z9 => iI (sl z9)))), (m4, .inl (cI G, 80, .inl (fun z9 => nI (tx z9)))), (m5, .inl (cI G, 128, .inl (fun z9 => iI (ne z9))))]) H → va_D A ([(mh, .inr (8, [.int (th), .ref m1, .ref m2, .int (nI (kn)), .ref m3, .int (nI (ke)), .ref m4, .int (nI (le)), .ref m5, .int (sp), .int (wr), .int (si), .int (on), .int (tw), .int (dn)])), (m1, .inl (cI G, 205, .inl (fun z9 => iI (ss z9)))), (m2, .inl (cI G, 1230, .inl (fun z9 => iI ((cpH (hi) ss (205 * (kn)) i) z9)))), (m3, .inl (cI G, 410, .inl (fun z9 => iI (sl z9)))), (m4, .inl (cI G, 80, .inl (fun z9 => nI (tx z9)))), (m5, .inl (cI G, 128, .inl (fun z9 => iI (ne z9))))]) → va_S A s.heap H locs → lv_has ls 2 [(0, .ref mh), (1, .int (nI (i)))] → W pg l ev ({ frames := 0, cells := 0, slots := 0, locals := 0 } : Room) s m (([.ref mh] : List Value).toArray) below meth c H locs 0 0 (MQ below (va_Qv (fun (u : Unit) => u = ()) (fun (u : Unit) t9 => PP G ([(mh, .inr (8, [.int (th), .ref m1, .ref m2, .int (nI (min (kn + 1) 6)), .ref m3, .int (nI (ke)), .ref m4, .int (nI (le)), .ref m5, .int (sp), .int (wr), .int (si), .int (on), .int (tw), .int (dn)])), (m1, .inl (cI G, 205, .inl (fun z9 => iI (ss z9)))), (m2, .inl (cI G, 1230, .inl (fun z9 => iI ((recH hi ss kn) z9)))), (m3, .inl (cI G, 410, .inl (fun z9 => iI (sl z9)))), (m4, .inl (cI G, 80, .inl (fun z9 => nI (tx z9)))), (m5, .inl (cI G, 128, .inl (fun z9 => iI (ne z9))))]) t9.heap) A) (([.ref mh] : List Value).toArray) s 0 0 A) (F0 m 52 ls []) := by
      intro n_52
      induction n_52 with
      | zero => intro i hn; exact absurd hn (Nat.not_lt_zero _)
      | succ n_52 ih_52 =>
        intro i hn_52 hi9 H locs ls hP hD hS hl
        refine lv_iload_n hx hb dX9_record_52 rfl (lv_at hl 1 rfl) ?_
        refine lv_sipush (v := nI (205)) hx hb dX9_record_53 (by decide) ?_
        refine lv_icmp_ge (tgt := 86) hx hb dX9_record_56 (by decide) (fun c_3 => ?_) (fun c_3 => ?_)
        · have f_4 : (205 : Int) ≤ ((i : Nat) : Int) := (c_le (nI_toInt (n := 205) (by omega)) (nI_toInt (n := i) (by omega))).mp c_3
          have e_i : i = 205 := by omega
          replace e_i := e_i.symm
          subst e_i
          refine lv_aload_n hx hb dX9_record_86 rfl (lv_at hl 0 rfl) ?_
          refine lv_dup hx hb dX9_record_87 rfl ?_
          refine va_get (D := gD G) (cl := vwCl) (tys := tyl G) (ci := 8) (v := .int (nI (kn))) (C := RX9) (T := TX9) (N := 15) hx hb hts (by decide +kernel) hown hC.K hP 0 rfl rfl 3 (by decide) (hts (.fieldLink RX9 33 "MotionPostModel" "known" "I") (by decide +kernel)) (fun _ h9 => h9) rfl dX9_record_88 ?_
          refine lv_iconst (v := nI (1)) hx hb dX9_record_91 (by decide) ?_
          refine gAdd (z := nI (kn + 1)) hx hb dX9_record_92 (nI_add _ _) ?_
          refine va_put (D := gD G) (cl := vwCl) (tys := tyl G) (ci := 8) (v := .int (nI (kn + 1))) (ty := .int) (C := RX9) (T := TX9) (N := 15) hx hb hts (by decide +kernel) tyX9 tyX9_ok nmX9 hown hC.K hP hD hS 0 rfl rfl 3 (by decide) (hts (.fieldLink RX9 33 "MotionPostModel" "known" "I") (by decide +kernel)) (fun _ h9 => h9) rfl (by decide +kernel) (rfl) rfl (Nat.le_of_ble_eq_true rfl) dX9_record_93 (fun H locs hP hD hS => ?_)
          have hP : PP G ([(mh, .inr (8, [.int (th), .ref m1, .ref m2, .int (nI (kn + 1)), .ref m3, .int (nI (ke)), .ref m4, .int (nI (le)), .ref m5, .int (sp), .int (wr), .int (si), .int (on), .int (tw), .int (dn)])), (m1, .inl (cI G, 205, .inl (fun z9 => iI (ss z9)))), (m2, .inl (cI G, 1230, .inl (fun z9 => iI ((cpH (hi) ss (205 * (kn)) 205) z9)))), (m3, .inl (cI G, 410, .inl (fun z9 => iI (sl z9)))), (m4, .inl (cI G, 80, .inl (fun z9 => nI (tx z9)))), (m5, .inl (cI G, 128, .inl (fun z9 => iI (ne z9))))]) H := hP
          have hD : va_D A ([(mh, .inr (8, [.int (th), .ref m1, .ref m2, .int (nI (kn + 1)), .ref m3, .int (nI (ke)), .ref m4, .int (nI (le)), .ref m5, .int (sp), .int (wr), .int (si), .int (on), .int (tw), .int (dn)])), (m1, .inl (cI G, 205, .inl (fun z9 => iI (ss z9)))), (m2, .inl (cI G, 1230, .inl (fun z9 => iI ((cpH (hi) ss (205 * (kn)) 205) z9)))), (m3, .inl (cI G, 410, .inl (fun z9 => iI (sl z9)))), (m4, .inl (cI G, 80, .inl (fun z9 => nI (tx z9)))), (m5, .inl (cI G, 128, .inl (fun z9 => iI (ne z9))))]) := hD
          have er : recH hi ss kn = cpH (hi) ss (205 * (kn)) 205 := by first | exact recH_6 (by omega) | exact recH_n (by omega)
          have ek : min (kn + 1) 6 = kn + 1 := by omega
          rw [← er, ← ek] at hP
          exact xMv (G := G) (post := (fun (u : Unit) => u = ())) (w1 := (fun (u : Unit) => [(mh, .inr (8, [.int (th), .ref m1, .ref m2, .int (nI (min (kn + 1) 6)), .ref m3, .int (nI (ke)), .ref m4, .int (nI (le)), .ref m5, .int (sp), .int (wr), .int (si), .int (on), .int (tw), .int (dn)])), (m1, .inl (cI G, 205, .inl (fun z9 => iI (ss z9)))), (m2, .inl (cI G, 1230, .inl (fun z9 => iI ((recH hi ss kn) z9)))), (m3, .inl (cI G, 410, .inl (fun z9 => iI (sl z9)))), (m4, .inl (cI G, 80, .inl (fun z9 => nI (tx z9)))), (m5, .inl (cI G, 128, .inl (fun z9 => iI (ne z9))))])) (()) hx hb hr hlocks hP hS (by exact rfl) dX9_record_96
        · have f_5 : ¬ (205 : Int) ≤ ((i : Nat) : Int) := fun z => c_3 ((c_le (nI_toInt (n := 205) (by omega)) (nI_toInt (n := i) (by omega))).mpr z)
          refine lv_aload_n hx hb dX9_record_59 rfl (lv_at hl 0 rfl) ?_
          refine va_get (D := gD G) (cl := vwCl) (tys := tyl G) (ci := 8) (v := .ref m2) (C := RX9) (T := TX9) (N := 15) hx hb hts (by decide +kernel) hown hC.K hP 0 rfl rfl 2 (by decide) (hts (.fieldLink RX9 13 "MotionPostModel" "history" "[I") (by decide +kernel)) (fun _ h9 => h9) rfl dX9_record_60 ?_
          refine lv_sipush (v := nI (205)) hx hb dX9_record_63 (by decide) ?_
          refine lv_aload_n hx hb dX9_record_66 rfl (lv_at hl 0 rfl) ?_
          refine va_get (D := gD G) (cl := vwCl) (tys := tyl G) (ci := 8) (v := .int (nI (kn))) (C := RX9) (T := TX9) (N := 15) hx hb hts (by decide +kernel) hown hC.K hP 0 rfl rfl 3 (by decide) (hts (.fieldLink RX9 33 "MotionPostModel" "known" "I") (by decide +kernel)) (fun _ h9 => h9) rfl dX9_record_67 ?_
          refine gMul (z := nI (205 * kn)) hx hb dX9_record_70 (pk_mul _ _) ?_
          refine lv_iload_n hx hb dX9_record_71 rfl (lv_at hl 1 rfl) ?_
          refine gAdd (z := nI ((205 * kn) + i)) hx hb dX9_record_72 (nI_add _ _) ?_
          refine lv_aload_n hx hb dX9_record_73 rfl (lv_at hl 0 rfl) ?_
          refine va_get (D := gD G) (cl := vwCl) (tys := tyl G) (ci := 8) (v := .ref m1) (C := RX9) (T := TX9) (N := 15) hx hb hts (by decide +kernel) hown hC.K hP 0 rfl rfl 1 (by decide) (hts (.fieldLink RX9 7 "MotionPostModel" "s" "[I") (by decide +kernel)) (fun _ h9 => h9) rfl dX9_record_74 ?_
          refine lv_iload_n hx hb dX9_record_77 rfl (lv_at hl 1 rfl) ?_
          refine gIald (j := i) hx hb hC.K hP 1 0 rfl rfl (rfl) (by omega) (by decide) dX9_record_78 ?_
          refine gIast (j := (205 * kn) + i) (f' := fun z9 => iI ((va_up (cpH (hi) ss (205 * (kn)) i) ((205 * kn) + i) (ss i)) z9)) hx hb hC.K hP hD hS 2 0 rfl rfl (rfl) (by omega) (by decide) (upz_Z _ _ _) dX9_record_79 (fun H locs hP hD hS => ?_)
          have hP : PP G ([(mh, .inr (8, [.int (th), .ref m1, .ref m2, .int (nI (kn)), .ref m3, .int (nI (ke)), .ref m4, .int (nI (le)), .ref m5, .int (sp), .int (wr), .int (si), .int (on), .int (tw), .int (dn)])), (m1, .inl (cI G, 205, .inl (fun z9 => iI (ss z9)))), (m2, .inl (cI G, 1230, .inl (fun z9 => iI ((va_up (cpH (hi) ss (205 * (kn)) i) ((205 * kn) + i) (ss i)) z9)))), (m3, .inl (cI G, 410, .inl (fun z9 => iI (sl z9)))), (m4, .inl (cI G, 80, .inl (fun z9 => nI (tx z9)))), (m5, .inl (cI G, 128, .inl (fun z9 => iI (ne z9))))]) H := hP
          have hD : va_D A ([(mh, .inr (8, [.int (th), .ref m1, .ref m2, .int (nI (kn)), .ref m3, .int (nI (ke)), .ref m4, .int (nI (le)), .ref m5, .int (sp), .int (wr), .int (si), .int (on), .int (tw), .int (dn)])), (m1, .inl (cI G, 205, .inl (fun z9 => iI (ss z9)))), (m2, .inl (cI G, 1230, .inl (fun z9 => iI ((va_up (cpH (hi) ss (205 * (kn)) i) ((205 * kn) + i) (ss i)) z9)))), (m3, .inl (cI G, 410, .inl (fun z9 => iI (sl z9)))), (m4, .inl (cI G, 80, .inl (fun z9 => nI (tx z9)))), (m5, .inl (cI G, 128, .inl (fun z9 => iI (ne z9))))]) := hD
          refine lv_iinc (v := nI (i + 1)) (lv' := [(1, .int (nI (i + 1))), (0, .ref mh)]) hx hb dX9_record_80 hl (k := 1) rfl (inc_p i 1) (by decide) rfl (fun ls hl => ?_)
          refine lv_goto (tgt := 52) hx hb dX9_record_83 (by decide) ?_
          exact ih_52 (i + 1) (by omega) (by omega) H locs ls hP hD hS (lv_sub hl [1, 0] ((lvc rfl (lvc rfl rfl))))
    exact L_52 (205 + 1) 0 (Nat.lt_succ_self _) (by omega) s.heap locs ls hP hD hS (lv_sub hl [1, 0] (lvc rfl (lvc rfl rfl)))
  · have f_6 : ((kn : Nat) : Int) = (6 : Int) := (c_eq (nI_toInt (n := kn) (by omega)) (nI_toInt (n := 6) (by omega))).mp c_1
    refine lv_iconst (v := nI (0)) hx hb dX9_record_9 (by decide) ?_
    refine lv_istore_n (lv' := [(1, .int (nI (0))), (0, .ref mh)]) hx hb dX9_record_10 rfl hl (by decide) rfl (fun ls hl => ?_)
    have L_11 : ∀ (n_11 : Nat) (i : Nat), 1025 - i < n_11 → (i ≤ 1025) → ∀ (H : Heap) (locs : List Loc) (ls : Array Slot), PP G ([(mh, .inr (8, [.int (th), .ref m1, .ref m2, .int (nI (kn)), .ref m3, .int (nI (ke)), .ref m4, .int (nI (le)), .ref m5, .int (sp), .int (wr), .int (si), .int (on), .int (tw), .int (dn)])), (m1, .inl (cI G, 205, .inl (fun z9 => iI (ss z9)))), (m2, .inl (cI G, 1230, .inl (fun z9 => iI ((shH hi i) z9)))), (m3, .inl (cI G, 410, .inl (fun z9 => iI (sl z9)))), (m4, .inl (cI G, 80, .inl (fun z9 => nI (tx z9)))), (m5, .inl (cI G, 128, .inl (fun z9 => iI (ne z9))))]) H → va_D A ([(mh, .inr (8, [.int (th), .ref m1, .ref m2, .int (nI (kn)), .ref m3, .int (nI (ke)), .ref m4, .int (nI (le)), .ref m5, .int (sp), .int (wr), .int (si), .int (on), .int (tw), .int (dn)])), (m1, .inl (cI G, 205, .inl (fun z9 => iI (ss z9)))), (m2, .inl (cI G, 1230, .inl (fun z9 => iI ((shH hi i) z9)))), (m3, .inl (cI G, 410, .inl (fun z9 => iI (sl z9)))), (m4, .inl (cI G, 80, .inl (fun z9 => nI (tx z9)))), (m5, .inl (cI G, 128, .inl (fun z9 => iI (ne z9))))]) → va_S A s.heap H locs → lv_has ls 2 [(0, .ref mh), (1, .int (nI (i)))] → W pg l ev ({ frames := 0, cells := 0, slots := 0, locals := 0 } : Room) s m (([.ref mh] : List Value).toArray) below meth c H locs 0 0 (MQ below (va_Qv (fun (u : Unit) => u = ()) (fun (u : Unit) t9 => PP G ([(mh, .inr (8, [.int (th), .ref m1, .ref m2, .int (nI (min (kn + 1) 6)), .ref m3, .int (nI (ke)), .ref m4, .int (nI (le)), .ref m5, .int (sp), .int (wr), .int (si), .int (on), .int (tw), .int (dn)])), (m1, .inl (cI G, 205, .inl (fun z9 => iI (ss z9)))), (m2, .inl (cI G, 1230, .inl (fun z9 => iI ((recH hi ss kn) z9)))), (m3, .inl (cI G, 410, .inl (fun z9 => iI (sl z9)))), (m4, .inl (cI G, 80, .inl (fun z9 => nI (tx z9)))), (m5, .inl (cI G, 128, .inl (fun z9 => iI (ne z9))))]) t9.heap) A) (([.ref mh] : List Value).toArray) s 0 0 A) (F0 m 11 ls []) := by
      intro n_11
      induction n_11 with
      | zero => intro i hn; exact absurd hn (Nat.not_lt_zero _)
      | succ n_11 ih_11 =>
        intro i hn_11 hi9 H locs ls hP hD hS hl
        refine lv_iload_n hx hb dX9_record_11 rfl (lv_at hl 1 rfl) ?_
        refine lv_sipush (v := nI (1025)) hx hb dX9_record_12 (by decide) ?_
        refine lv_icmp_ge (tgt := 40) hx hb dX9_record_15 (by decide) (fun c_7 => ?_) (fun c_7 => ?_)
        · have f_8 : (1025 : Int) ≤ ((i : Nat) : Int) := (c_le (nI_toInt (n := 1025) (by omega)) (nI_toInt (n := i) (by omega))).mp c_7
          have e_i : i = 1025 := by omega
          replace e_i := e_i.symm
          subst e_i
          refine lv_aload_n hx hb dX9_record_40 rfl (lv_at hl 0 rfl) ?_
          refine lv_dup hx hb dX9_record_41 rfl ?_
          refine va_get (D := gD G) (cl := vwCl) (tys := tyl G) (ci := 8) (v := .int (nI (kn))) (C := RX9) (T := TX9) (N := 15) hx hb hts (by decide +kernel) hown hC.K hP 0 rfl rfl 3 (by decide) (hts (.fieldLink RX9 33 "MotionPostModel" "known" "I") (by decide +kernel)) (fun _ h9 => h9) rfl dX9_record_42 ?_
          refine lv_iconst (v := nI (1)) hx hb dX9_record_45 (by decide) ?_
          refine gSub (z := nI (kn - 1)) hx hb dX9_record_46 (pk_sub (by omega)) ?_
          refine va_put (D := gD G) (cl := vwCl) (tys := tyl G) (ci := 8) (v := .int (nI (kn - 1))) (ty := .int) (C := RX9) (T := TX9) (N := 15) hx hb hts (by decide +kernel) tyX9 tyX9_ok nmX9 hown hC.K hP hD hS 0 rfl rfl 3 (by decide) (hts (.fieldLink RX9 33 "MotionPostModel" "known" "I") (by decide +kernel)) (fun _ h9 => h9) rfl (by decide +kernel) (rfl) rfl (Nat.le_of_ble_eq_true rfl) dX9_record_47 (fun H locs hP hD hS => ?_)
          have hP : PP G ([(mh, .inr (8, [.int (th), .ref m1, .ref m2, .int (nI (kn - 1)), .ref m3, .int (nI (ke)), .ref m4, .int (nI (le)), .ref m5, .int (sp), .int (wr), .int (si), .int (on), .int (tw), .int (dn)])), (m1, .inl (cI G, 205, .inl (fun z9 => iI (ss z9)))), (m2, .inl (cI G, 1230, .inl (fun z9 => iI ((shH hi 1025) z9)))), (m3, .inl (cI G, 410, .inl (fun z9 => iI (sl z9)))), (m4, .inl (cI G, 80, .inl (fun z9 => nI (tx z9)))), (m5, .inl (cI G, 128, .inl (fun z9 => iI (ne z9))))]) H := hP
          have hD : va_D A ([(mh, .inr (8, [.int (th), .ref m1, .ref m2, .int (nI (kn - 1)), .ref m3, .int (nI (ke)), .ref m4, .int (nI (le)), .ref m5, .int (sp), .int (wr), .int (si), .int (on), .int (tw), .int (dn)])), (m1, .inl (cI G, 205, .inl (fun z9 => iI (ss z9)))), (m2, .inl (cI G, 1230, .inl (fun z9 => iI ((shH hi 1025) z9)))), (m3, .inl (cI G, 410, .inl (fun z9 => iI (sl z9)))), (m4, .inl (cI G, 80, .inl (fun z9 => nI (tx z9)))), (m5, .inl (cI G, 128, .inl (fun z9 => iI (ne z9))))]) := hD
          refine lv_iconst (v := nI (0)) hx hb dX9_record_50 (by decide) ?_
          refine lv_istore_n (lv' := [(1, .int (nI (0))), (0, .ref mh)]) hx hb dX9_record_51 rfl hl (by decide) rfl (fun ls hl => ?_)
          have L_52 : ∀ (n_52 : Nat) (i : Nat), 205 - i < n_52 → (i ≤ 205) → ∀ (H : Heap) (locs : List Loc) (ls : Array Slot), PP G ([(mh, .inr (8, [.int (th), .ref m1, .ref m2, .int (nI (kn - 1)), .ref m3, .int (nI (ke)), .ref m4, .int (nI (le)), .ref m5, .int (sp), .int (wr), .int (si), .int (on), .int (tw), .int (dn)])), (m1, .inl (cI G, 205, .inl (fun z9 => iI (ss z9)))), (m2, .inl (cI G, 1230, .inl (fun z9 => iI ((cpH (shH hi 1025) ss (205 * (kn - 1)) i) z9)))), (m3, .inl (cI G, 410, .inl (fun z9 => iI (sl z9)))), (m4, .inl (cI G, 80, .inl (fun z9 => nI (tx z9)))), (m5, .inl (cI G, 128, .inl (fun z9 => iI (ne z9))))]) H → va_D A ([(mh, .inr (8, [.int (th), .ref m1, .ref m2, .int (nI (kn - 1)), .ref m3, .int (nI (ke)), .ref m4, .int (nI (le)), .ref m5, .int (sp), .int (wr), .int (si), .int (on), .int (tw), .int (dn)])), (m1, .inl (cI G, 205, .inl (fun z9 => iI (ss z9)))), (m2, .inl (cI G, 1230, .inl (fun z9 => iI ((cpH (shH hi 1025) ss (205 * (kn - 1)) i) z9)))), (m3, .inl (cI G, 410, .inl (fun z9 => iI (sl z9)))), (m4, .inl (cI G, 80, .inl (fun z9 => nI (tx z9)))), (m5, .inl (cI G, 128, .inl (fun z9 => iI (ne z9))))]) → va_S A s.heap H locs → lv_has ls 2 [(0, .ref mh), (1, .int (nI (i)))] → W pg l ev ({ frames := 0, cells := 0, slots := 0, locals := 0 } : Room) s m (([.ref mh] : List Value).toArray) below meth c H locs 0 0 (MQ below (va_Qv (fun (u : Unit) => u = ()) (fun (u : Unit) t9 => PP G ([(mh, .inr (8, [.int (th), .ref m1, .ref m2, .int (nI (min (kn + 1) 6)), .ref m3, .int (nI (ke)), .ref m4, .int (nI (le)), .ref m5, .int (sp), .int (wr), .int (si), .int (on), .int (tw), .int (dn)])), (m1, .inl (cI G, 205, .inl (fun z9 => iI (ss z9)))), (m2, .inl (cI G, 1230, .inl (fun z9 => iI ((recH hi ss kn) z9)))), (m3, .inl (cI G, 410, .inl (fun z9 => iI (sl z9)))), (m4, .inl (cI G, 80, .inl (fun z9 => nI (tx z9)))), (m5, .inl (cI G, 128, .inl (fun z9 => iI (ne z9))))]) t9.heap) A) (([.ref mh] : List Value).toArray) s 0 0 A) (F0 m 52 ls []) := by
            intro n_52
            induction n_52 with
            | zero => intro i hn; exact absurd hn (Nat.not_lt_zero _)
            | succ n_52 ih_52 =>
              intro i hn_52 hi9 H locs ls hP hD hS hl
              refine lv_iload_n hx hb dX9_record_52 rfl (lv_at hl 1 rfl) ?_
              refine lv_sipush (v := nI (205)) hx hb dX9_record_53 (by decide) ?_
              refine lv_icmp_ge (tgt := 86) hx hb dX9_record_56 (by decide) (fun c_9 => ?_) (fun c_9 => ?_)
              · have f_10 : (205 : Int) ≤ ((i : Nat) : Int) := (c_le (nI_toInt (n := 205) (by omega)) (nI_toInt (n := i) (by omega))).mp c_9
                have e_i : i = 205 := by omega
                replace e_i := e_i.symm
                subst e_i
                refine lv_aload_n hx hb dX9_record_86 rfl (lv_at hl 0 rfl) ?_
                refine lv_dup hx hb dX9_record_87 rfl ?_
                refine va_get (D := gD G) (cl := vwCl) (tys := tyl G) (ci := 8) (v := .int (nI (kn - 1))) (C := RX9) (T := TX9) (N := 15) hx hb hts (by decide +kernel) hown hC.K hP 0 rfl rfl 3 (by decide) (hts (.fieldLink RX9 33 "MotionPostModel" "known" "I") (by decide +kernel)) (fun _ h9 => h9) rfl dX9_record_88 ?_
                refine lv_iconst (v := nI (1)) hx hb dX9_record_91 (by decide) ?_
                refine gAdd (z := nI ((kn - 1) + 1)) hx hb dX9_record_92 (nI_add _ _) ?_
                refine va_put (D := gD G) (cl := vwCl) (tys := tyl G) (ci := 8) (v := .int (nI ((kn - 1) + 1))) (ty := .int) (C := RX9) (T := TX9) (N := 15) hx hb hts (by decide +kernel) tyX9 tyX9_ok nmX9 hown hC.K hP hD hS 0 rfl rfl 3 (by decide) (hts (.fieldLink RX9 33 "MotionPostModel" "known" "I") (by decide +kernel)) (fun _ h9 => h9) rfl (by decide +kernel) (rfl) rfl (Nat.le_of_ble_eq_true rfl) dX9_record_93 (fun H locs hP hD hS => ?_)
                have hP : PP G ([(mh, .inr (8, [.int (th), .ref m1, .ref m2, .int (nI ((kn - 1) + 1)), .ref m3, .int (nI (ke)), .ref m4, .int (nI (le)), .ref m5, .int (sp), .int (wr), .int (si), .int (on), .int (tw), .int (dn)])), (m1, .inl (cI G, 205, .inl (fun z9 => iI (ss z9)))), (m2, .inl (cI G, 1230, .inl (fun z9 => iI ((cpH (shH hi 1025) ss (205 * (kn - 1)) 205) z9)))), (m3, .inl (cI G, 410, .inl (fun z9 => iI (sl z9)))), (m4, .inl (cI G, 80, .inl (fun z9 => nI (tx z9)))), (m5, .inl (cI G, 128, .inl (fun z9 => iI (ne z9))))]) H := hP
                have hD : va_D A ([(mh, .inr (8, [.int (th), .ref m1, .ref m2, .int (nI ((kn - 1) + 1)), .ref m3, .int (nI (ke)), .ref m4, .int (nI (le)), .ref m5, .int (sp), .int (wr), .int (si), .int (on), .int (tw), .int (dn)])), (m1, .inl (cI G, 205, .inl (fun z9 => iI (ss z9)))), (m2, .inl (cI G, 1230, .inl (fun z9 => iI ((cpH (shH hi 1025) ss (205 * (kn - 1)) 205) z9)))), (m3, .inl (cI G, 410, .inl (fun z9 => iI (sl z9)))), (m4, .inl (cI G, 80, .inl (fun z9 => nI (tx z9)))), (m5, .inl (cI G, 128, .inl (fun z9 => iI (ne z9))))]) := hD
                have er : recH hi ss kn = cpH (shH hi 1025) ss (205 * (kn - 1)) 205 := by first | exact recH_6 (by omega) | exact recH_n (by omega)
                have ek : min (kn + 1) 6 = (kn - 1) + 1 := by omega
                rw [← er, ← ek] at hP
                exact xMv (G := G) (post := (fun (u : Unit) => u = ())) (w1 := (fun (u : Unit) => [(mh, .inr (8, [.int (th), .ref m1, .ref m2, .int (nI (min (kn + 1) 6)), .ref m3, .int (nI (ke)), .ref m4, .int (nI (le)), .ref m5, .int (sp), .int (wr), .int (si), .int (on), .int (tw), .int (dn)])), (m1, .inl (cI G, 205, .inl (fun z9 => iI (ss z9)))), (m2, .inl (cI G, 1230, .inl (fun z9 => iI ((recH hi ss kn) z9)))), (m3, .inl (cI G, 410, .inl (fun z9 => iI (sl z9)))), (m4, .inl (cI G, 80, .inl (fun z9 => nI (tx z9)))), (m5, .inl (cI G, 128, .inl (fun z9 => iI (ne z9))))])) (()) hx hb hr hlocks hP hS (by exact rfl) dX9_record_96
              · have f_11 : ¬ (205 : Int) ≤ ((i : Nat) : Int) := fun z => c_9 ((c_le (nI_toInt (n := 205) (by omega)) (nI_toInt (n := i) (by omega))).mpr z)
                refine lv_aload_n hx hb dX9_record_59 rfl (lv_at hl 0 rfl) ?_
                refine va_get (D := gD G) (cl := vwCl) (tys := tyl G) (ci := 8) (v := .ref m2) (C := RX9) (T := TX9) (N := 15) hx hb hts (by decide +kernel) hown hC.K hP 0 rfl rfl 2 (by decide) (hts (.fieldLink RX9 13 "MotionPostModel" "history" "[I") (by decide +kernel)) (fun _ h9 => h9) rfl dX9_record_60 ?_
                refine lv_sipush (v := nI (205)) hx hb dX9_record_63 (by decide) ?_
                refine lv_aload_n hx hb dX9_record_66 rfl (lv_at hl 0 rfl) ?_
                refine va_get (D := gD G) (cl := vwCl) (tys := tyl G) (ci := 8) (v := .int (nI (kn - 1))) (C := RX9) (T := TX9) (N := 15) hx hb hts (by decide +kernel) hown hC.K hP 0 rfl rfl 3 (by decide) (hts (.fieldLink RX9 33 "MotionPostModel" "known" "I") (by decide +kernel)) (fun _ h9 => h9) rfl dX9_record_67 ?_
                refine gMul (z := nI (205 * (kn - 1))) hx hb dX9_record_70 (pk_mul _ _) ?_
                refine lv_iload_n hx hb dX9_record_71 rfl (lv_at hl 1 rfl) ?_
                refine gAdd (z := nI ((205 * (kn - 1)) + i)) hx hb dX9_record_72 (nI_add _ _) ?_
                refine lv_aload_n hx hb dX9_record_73 rfl (lv_at hl 0 rfl) ?_
                refine va_get (D := gD G) (cl := vwCl) (tys := tyl G) (ci := 8) (v := .ref m1) (C := RX9) (T := TX9) (N := 15) hx hb hts (by decide +kernel) hown hC.K hP 0 rfl rfl 1 (by decide) (hts (.fieldLink RX9 7 "MotionPostModel" "s" "[I") (by decide +kernel)) (fun _ h9 => h9) rfl dX9_record_74 ?_
                refine lv_iload_n hx hb dX9_record_77 rfl (lv_at hl 1 rfl) ?_
                refine gIald (j := i) hx hb hC.K hP 1 0 rfl rfl (rfl) (by omega) (by decide) dX9_record_78 ?_
                refine gIast (j := (205 * (kn - 1)) + i) (f' := fun z9 => iI ((va_up (cpH (shH hi 1025) ss (205 * (kn - 1)) i) ((205 * (kn - 1)) + i) (ss i)) z9)) hx hb hC.K hP hD hS 2 0 rfl rfl (rfl) (by omega) (by decide) (upz_Z _ _ _) dX9_record_79 (fun H locs hP hD hS => ?_)
                have hP : PP G ([(mh, .inr (8, [.int (th), .ref m1, .ref m2, .int (nI (kn - 1)), .ref m3, .int (nI (ke)), .ref m4, .int (nI (le)), .ref m5, .int (sp), .int (wr), .int (si), .int (on), .int (tw), .int (dn)])), (m1, .inl (cI G, 205, .inl (fun z9 => iI (ss z9)))), (m2, .inl (cI G, 1230, .inl (fun z9 => iI ((va_up (cpH (shH hi 1025) ss (205 * (kn - 1)) i) ((205 * (kn - 1)) + i) (ss i)) z9)))), (m3, .inl (cI G, 410, .inl (fun z9 => iI (sl z9)))), (m4, .inl (cI G, 80, .inl (fun z9 => nI (tx z9)))), (m5, .inl (cI G, 128, .inl (fun z9 => iI (ne z9))))]) H := hP
                have hD : va_D A ([(mh, .inr (8, [.int (th), .ref m1, .ref m2, .int (nI (kn - 1)), .ref m3, .int (nI (ke)), .ref m4, .int (nI (le)), .ref m5, .int (sp), .int (wr), .int (si), .int (on), .int (tw), .int (dn)])), (m1, .inl (cI G, 205, .inl (fun z9 => iI (ss z9)))), (m2, .inl (cI G, 1230, .inl (fun z9 => iI ((va_up (cpH (shH hi 1025) ss (205 * (kn - 1)) i) ((205 * (kn - 1)) + i) (ss i)) z9)))), (m3, .inl (cI G, 410, .inl (fun z9 => iI (sl z9)))), (m4, .inl (cI G, 80, .inl (fun z9 => nI (tx z9)))), (m5, .inl (cI G, 128, .inl (fun z9 => iI (ne z9))))]) := hD
                refine lv_iinc (v := nI (i + 1)) (lv' := [(1, .int (nI (i + 1))), (0, .ref mh)]) hx hb dX9_record_80 hl (k := 1) rfl (inc_p i 1) (by decide) rfl (fun ls hl => ?_)
                refine lv_goto (tgt := 52) hx hb dX9_record_83 (by decide) ?_
                exact ih_52 (i + 1) (by omega) (by omega) H locs ls hP hD hS (lv_sub hl [1, 0] ((lvc rfl (lvc rfl rfl))))
          exact L_52 (205 + 1) 0 (Nat.lt_succ_self _) (by omega) H locs ls hP hD hS (lv_sub hl [1, 0] (lvc rfl (lvc rfl rfl)))
        · have f_12 : ¬ (1025 : Int) ≤ ((i : Nat) : Int) := fun z => c_7 ((c_le (nI_toInt (n := 1025) (by omega)) (nI_toInt (n := i) (by omega))).mpr z)
          refine lv_aload_n hx hb dX9_record_18 rfl (lv_at hl 0 rfl) ?_
          refine va_get (D := gD G) (cl := vwCl) (tys := tyl G) (ci := 8) (v := .ref m2) (C := RX9) (T := TX9) (N := 15) hx hb hts (by decide +kernel) hown hC.K hP 0 rfl rfl 2 (by decide) (hts (.fieldLink RX9 13 "MotionPostModel" "history" "[I") (by decide +kernel)) (fun _ h9 => h9) rfl dX9_record_19 ?_
          refine lv_iload_n hx hb dX9_record_22 rfl (lv_at hl 1 rfl) ?_
          refine lv_aload_n hx hb dX9_record_23 rfl (lv_at hl 0 rfl) ?_
          refine va_get (D := gD G) (cl := vwCl) (tys := tyl G) (ci := 8) (v := .ref m2) (C := RX9) (T := TX9) (N := 15) hx hb hts (by decide +kernel) hown hC.K hP 0 rfl rfl 2 (by decide) (hts (.fieldLink RX9 13 "MotionPostModel" "history" "[I") (by decide +kernel)) (fun _ h9 => h9) rfl dX9_record_24 ?_
          refine lv_iload_n hx hb dX9_record_27 rfl (lv_at hl 1 rfl) ?_
          refine lv_sipush (v := nI (205)) hx hb dX9_record_28 (by decide) ?_
          refine gAdd (z := nI (i + 205)) hx hb dX9_record_31 (nI_add _ _) ?_
          refine gIald (j := i + 205) hx hb hC.K hP 2 0 rfl rfl (rfl) (by omega) (by decide) dX9_record_32 ?_
          refine gIast (j := i) (f' := fun z9 => iI ((va_up (shH hi i) i ((shH hi i) (i + 205))) z9)) hx hb hC.K hP hD hS 2 0 rfl rfl (rfl) (by omega) (by decide) (upz_Z _ _ _) dX9_record_33 (fun H locs hP hD hS => ?_)
          have hP : PP G ([(mh, .inr (8, [.int (th), .ref m1, .ref m2, .int (nI (kn)), .ref m3, .int (nI (ke)), .ref m4, .int (nI (le)), .ref m5, .int (sp), .int (wr), .int (si), .int (on), .int (tw), .int (dn)])), (m1, .inl (cI G, 205, .inl (fun z9 => iI (ss z9)))), (m2, .inl (cI G, 1230, .inl (fun z9 => iI ((va_up (shH hi i) i ((shH hi i) (i + 205))) z9)))), (m3, .inl (cI G, 410, .inl (fun z9 => iI (sl z9)))), (m4, .inl (cI G, 80, .inl (fun z9 => nI (tx z9)))), (m5, .inl (cI G, 128, .inl (fun z9 => iI (ne z9))))]) H := hP
          have hD : va_D A ([(mh, .inr (8, [.int (th), .ref m1, .ref m2, .int (nI (kn)), .ref m3, .int (nI (ke)), .ref m4, .int (nI (le)), .ref m5, .int (sp), .int (wr), .int (si), .int (on), .int (tw), .int (dn)])), (m1, .inl (cI G, 205, .inl (fun z9 => iI (ss z9)))), (m2, .inl (cI G, 1230, .inl (fun z9 => iI ((va_up (shH hi i) i ((shH hi i) (i + 205))) z9)))), (m3, .inl (cI G, 410, .inl (fun z9 => iI (sl z9)))), (m4, .inl (cI G, 80, .inl (fun z9 => nI (tx z9)))), (m5, .inl (cI G, 128, .inl (fun z9 => iI (ne z9))))]) := hD
          refine lv_iinc (v := nI (i + 1)) (lv' := [(1, .int (nI (i + 1))), (0, .ref mh)]) hx hb dX9_record_34 hl (k := 1) rfl (inc_p i 1) (by decide) rfl (fun ls hl => ?_)
          refine lv_goto (tgt := 11) hx hb dX9_record_37 (by decide) ?_
          exact ih_11 (i + 1) (by omega) (by omega) H locs ls hP hD hS (lv_sub hl [1, 0] ((lvc rfl (lvc rfl rfl))))
    exact L_11 (1025 + 1) 0 (Nat.lt_succ_self _) (by omega) s.heap locs ls hP hD hS (lv_sub hl [1, 0] (lvc rfl (lvc rfl rfl)))

set_option maxHeartbeats 4000000 in
set_option maxRecDepth 100000 in
theorem c_X9_scrolls {l : Launch} {G : GT} {H0 : Heap} (mh m1 m2 m3 m4 m5 : Nat) (ss hi sl : Nat → Int) (tx : Nat → Nat) (ne : Nat → Int) (th : Int32) (kn ke le : Nat) (sp wr si on tw dn : Int32) (dy dx : Int) (hMR : MR ss) (hdy : -2 ≤ dy ∧ dy ≤ 2) (hdx : -2 ≤ dx ∧ dx ≤ 2) (hP0 : PP G ([(mh, .inr (8, [.int (th), .ref m1, .ref m2, .int (nI (kn)), .ref m3, .int (nI (ke)), .ref m4, .int (nI (le)), .ref m5, .int (sp), .int (wr), .int (si), .int (on), .int (tw), .int (dn)])), (m1, .inl (cI G, 205, .inl (fun z9 => iI (ss z9)))), (m2, .inl (cI G, 1230, .inl (fun z9 => iI (hi z9)))), (m3, .inl (cI G, 410, .inl (fun z9 => iI (sl z9)))), (m4, .inl (cI G, 80, .inl (fun z9 => nI (tx z9)))), (m5, .inl (cI G, 128, .inl (fun z9 => iI (ne z9))))]) H0) (hB0 : va_D (lo G) ([(mh, .inr (8, [.int (th), .ref m1, .ref m2, .int (nI (kn)), .ref m3, .int (nI (ke)), .ref m4, .int (nI (le)), .ref m5, .int (sp), .int (wr), .int (si), .int (on), .int (tw), .int (dn)])), (m1, .inl (cI G, 205, .inl (fun z9 => iI (ss z9)))), (m2, .inl (cI G, 1230, .inl (fun z9 => iI (hi z9)))), (m3, .inl (cI G, 410, .inl (fun z9 => iI (sl z9)))), (m4, .inl (cI G, 80, .inl (fun z9 => nI (tx z9)))), (m5, .inl (cI G, 128, .inl (fun z9 => iI (ne z9))))])) : Met l yX9_scrolls wsX9_scrolls ({ frames := 2, cells := 0, slots := 0, locals := 42 } : Room) (pcG G [.ref mh, .int (iI (dy)), .int (iI (dx))] H0) (qMi G (fun (r : Int32) (u : Unit) => r = nI ((tkm ss dy dx ss 64).2)) (fun (u : Unit) => [(mh, .inr (8, [.int (th), .ref m1, .ref m2, .int (nI (kn)), .ref m3, .int (nI (ke)), .ref m4, .int (nI (le)), .ref m5, .int (sp), .int (wr), .int (si), .int (on), .int (tw), .int (dn)])), (m1, .inl (cI G, 205, .inl (fun z9 => iI (((tkm ss dy dx ss 64).1) z9)))), (m2, .inl (cI G, 1230, .inl (fun z9 => iI (hi z9)))), (m3, .inl (cI G, 410, .inl (fun z9 => iI (sl z9)))), (m4, .inl (cI G, 80, .inl (fun z9 => nI (tx z9)))), (m5, .inl (cI G, 128, .inl (fun z9 => iI ((neS ne ss dy dx 64) z9))))]) ([(mh, .inr (8, [.int (th), .ref m1, .ref m2, .int (nI (kn)), .ref m3, .int (nI (ke)), .ref m4, .int (nI (le)), .ref m5, .int (sp), .int (wr), .int (si), .int (on), .int (tw), .int (dn)])), (m1, .inl (cI G, 205, .inl (fun z9 => iI (ss z9)))), (m2, .inl (cI G, 1230, .inl (fun z9 => iI (hi z9)))), (m3, .inl (cI G, 410, .inl (fun z9 => iI (sl z9)))), (m4, .inl (cI G, 80, .inl (fun z9 => nI (tx z9)))), (m5, .inl (cI G, 128, .inl (fun z9 => iI (ne z9))))]) H0) 0 0 (va_A ([(mh, .inr (8, [.int (th), .ref m1, .ref m2, .int (nI (kn)), .ref m3, .int (nI (ke)), .ref m4, .int (nI (le)), .ref m5, .int (sp), .int (wr), .int (si), .int (on), .int (tw), .int (dn)])), (m1, .inl (cI G, 205, .inl (fun z9 => iI (ss z9)))), (m2, .inl (cI G, 1230, .inl (fun z9 => iI (hi z9)))), (m3, .inl (cI G, 410, .inl (fun z9 => iI (sl z9)))), (m4, .inl (cI G, 80, .inl (fun z9 => nI (tx z9)))), (m5, .inl (cI G, 128, .inl (fun z9 => iI (ne z9))))]) H0.size) := by
  refine enter (cc := cX9_scrolls) (maxL := 5) (ret := some .int) (own := RX9) (lv := [(0, .ref mh), (1, .int (iI (dy))), (2, .int (iI (dx)))]) (by decide) rfl rfl rfl (Nat.le_of_ble_eq_true rfl) ?_
  intro pg ev s m below meth c hx hb hr hts hown hlocks hml hnm hH hC ls hl
  subst hH
  have hLo := va_freeB hB0 hC.2.2.2.1
  have hD := hB0.self (sz := s.heap.size)
  have hS : va_S (va_A ([(mh, .inr (8, [.int (th), .ref m1, .ref m2, .int (nI (kn)), .ref m3, .int (nI (ke)), .ref m4, .int (nI (le)), .ref m5, .int (sp), .int (wr), .int (si), .int (on), .int (tw), .int (dn)])), (m1, .inl (cI G, 205, .inl (fun z9 => iI (ss z9)))), (m2, .inl (cI G, 1230, .inl (fun z9 => iI (hi z9)))), (m3, .inl (cI G, 410, .inl (fun z9 => iI (sl z9)))), (m4, .inl (cI G, 80, .inl (fun z9 => nI (tx z9)))), (m5, .inl (cI G, 128, .inl (fun z9 => iI (ne z9))))]) s.heap.size) s.heap s.heap [] := va_S.rf
  unfold qMi
  generalize hAe : va_A ([(mh, .inr (8, [.int (th), .ref m1, .ref m2, .int (nI (kn)), .ref m3, .int (nI (ke)), .ref m4, .int (nI (le)), .ref m5, .int (sp), .int (wr), .int (si), .int (on), .int (tw), .int (dn)])), (m1, .inl (cI G, 205, .inl (fun z9 => iI (ss z9)))), (m2, .inl (cI G, 1230, .inl (fun z9 => iI (hi z9)))), (m3, .inl (cI G, 410, .inl (fun z9 => iI (sl z9)))), (m4, .inl (cI G, 80, .inl (fun z9 => nI (tx z9)))), (m5, .inl (cI G, 128, .inl (fun z9 => iI (ne z9))))]) s.heap.size = A at hD hLo hS ⊢
  have hA : ∀ q, s.heap.size ≤ q → A q := fun q h => by rw [← hAe]; exact Or.inr h
  generalize ([] : List Loc) = locs at hS ⊢
  have hP := hP0
  refine lv_iconst (v := nI (0)) hx hb dX9_scrolls_0 (by decide) ?_
  refine lv_istore_n (lv' := [(3, .int (nI (0))), (0, .ref mh), (1, .int (iI (dy))), (2, .int (iI (dx)))]) hx hb dX9_scrolls_1 rfl hl (by decide) rfl (fun ls hl => ?_)
  refine lv_iconst (v := nI (0)) hx hb dX9_scrolls_2 (by decide) ?_
  refine lv_istore (lv' := [(4, .int (nI (0))), (3, .int (nI (0))), (0, .ref mh), (1, .int (iI (dy))), (2, .int (iI (dx)))]) hx hb dX9_scrolls_3 hl (by decide) rfl (fun ls hl => ?_)
  have L_5 : ∀ (n_5 : Nat) (i : Nat), 64 - i < n_5 → (i ≤ 64) → ∀ (H : Heap) (locs : List Loc) (ls : Array Slot), PP G ([(mh, .inr (8, [.int (th), .ref m1, .ref m2, .int (nI (kn)), .ref m3, .int (nI (ke)), .ref m4, .int (nI (le)), .ref m5, .int (sp), .int (wr), .int (si), .int (on), .int (tw), .int (dn)])), (m1, .inl (cI G, 205, .inl (fun z9 => iI (ss z9)))), (m2, .inl (cI G, 1230, .inl (fun z9 => iI (hi z9)))), (m3, .inl (cI G, 410, .inl (fun z9 => iI (sl z9)))), (m4, .inl (cI G, 80, .inl (fun z9 => nI (tx z9)))), (m5, .inl (cI G, 128, .inl (fun z9 => iI ((neS ne ss dy dx i) z9))))]) H → va_D A ([(mh, .inr (8, [.int (th), .ref m1, .ref m2, .int (nI (kn)), .ref m3, .int (nI (ke)), .ref m4, .int (nI (le)), .ref m5, .int (sp), .int (wr), .int (si), .int (on), .int (tw), .int (dn)])), (m1, .inl (cI G, 205, .inl (fun z9 => iI (ss z9)))), (m2, .inl (cI G, 1230, .inl (fun z9 => iI (hi z9)))), (m3, .inl (cI G, 410, .inl (fun z9 => iI (sl z9)))), (m4, .inl (cI G, 80, .inl (fun z9 => nI (tx z9)))), (m5, .inl (cI G, 128, .inl (fun z9 => iI ((neS ne ss dy dx i) z9))))]) → va_S A s.heap H locs → lv_has ls 5 [(0, .ref mh), (1, .int (iI (dy))), (2, .int (iI (dx))), (3, .int (nI (0))), (4, .int (nI (i)))] → W pg l ev ({ frames := 2, cells := 0, slots := 0, locals := 42 } : Room) s m (([.ref mh, .int (iI (dy)), .int (iI (dx))] : List Value).toArray) below meth c H locs 0 0 (MQ below (va_Qi (fun (r : Int32) (u : Unit) => r = nI ((tkm ss dy dx ss 64).2)) (fun (u : Unit) t9 => PP G ([(mh, .inr (8, [.int (th), .ref m1, .ref m2, .int (nI (kn)), .ref m3, .int (nI (ke)), .ref m4, .int (nI (le)), .ref m5, .int (sp), .int (wr), .int (si), .int (on), .int (tw), .int (dn)])), (m1, .inl (cI G, 205, .inl (fun z9 => iI (((tkm ss dy dx ss 64).1) z9)))), (m2, .inl (cI G, 1230, .inl (fun z9 => iI (hi z9)))), (m3, .inl (cI G, 410, .inl (fun z9 => iI (sl z9)))), (m4, .inl (cI G, 80, .inl (fun z9 => nI (tx z9)))), (m5, .inl (cI G, 128, .inl (fun z9 => iI ((neS ne ss dy dx 64) z9))))]) t9.heap) A) (([.ref mh, .int (iI (dy)), .int (iI (dx))] : List Value).toArray) s 0 0 A) (F0 m 5 ls []) := by
    intro n_5
    induction n_5 with
    | zero => intro i hn; exact absurd hn (Nat.not_lt_zero _)
    | succ n_5 ih_5 =>
      intro i hn_5 hi9 H locs ls hP hD hS hl
      refine lv_iload hx hb dX9_scrolls_5 (lv_at hl 4 rfl) ?_
      refine lv_bipush (v := nI (64)) hx hb dX9_scrolls_7 (by decide) ?_
      refine lv_icmp_ge (tgt := 39) hx hb dX9_scrolls_9 (by decide) (fun c_1 => ?_) (fun c_1 => ?_)
      · have f_2 : (64 : Int) ≤ ((i : Nat) : Int) := (c_le (nI_toInt (n := 64) (by omega)) (nI_toInt (n := i) (by omega))).mp c_1
        have e_i : i = 64 := by omega
        replace e_i := e_i.symm
        subst e_i
        refine lv_iconst (v := nI (0)) hx hb dX9_scrolls_39 (by decide) ?_
        refine lv_istore (lv' := [(4, .int (nI (0))), (0, .ref mh), (1, .int (iI (dy))), (2, .int (iI (dx))), (3, .int (nI (0)))]) hx hb dX9_scrolls_40 hl (by decide) rfl (fun ls hl => ?_)
        have L_42 : ∀ (n_42 : Nat) (i : Nat), 64 - i < n_42 → (i ≤ 64) → ∀ (H : Heap) (locs : List Loc) (ls : Array Slot), PP G ([(mh, .inr (8, [.int (th), .ref m1, .ref m2, .int (nI (kn)), .ref m3, .int (nI (ke)), .ref m4, .int (nI (le)), .ref m5, .int (sp), .int (wr), .int (si), .int (on), .int (tw), .int (dn)])), (m1, .inl (cI G, 205, .inl (fun z9 => iI (((tkm ss dy dx ss i).1) z9)))), (m2, .inl (cI G, 1230, .inl (fun z9 => iI (hi z9)))), (m3, .inl (cI G, 410, .inl (fun z9 => iI (sl z9)))), (m4, .inl (cI G, 80, .inl (fun z9 => nI (tx z9)))), (m5, .inl (cI G, 128, .inl (fun z9 => iI ((neS ne ss dy dx 64) z9))))]) H → va_D A ([(mh, .inr (8, [.int (th), .ref m1, .ref m2, .int (nI (kn)), .ref m3, .int (nI (ke)), .ref m4, .int (nI (le)), .ref m5, .int (sp), .int (wr), .int (si), .int (on), .int (tw), .int (dn)])), (m1, .inl (cI G, 205, .inl (fun z9 => iI (((tkm ss dy dx ss i).1) z9)))), (m2, .inl (cI G, 1230, .inl (fun z9 => iI (hi z9)))), (m3, .inl (cI G, 410, .inl (fun z9 => iI (sl z9)))), (m4, .inl (cI G, 80, .inl (fun z9 => nI (tx z9)))), (m5, .inl (cI G, 128, .inl (fun z9 => iI ((neS ne ss dy dx 64) z9))))]) → va_S A s.heap H locs → lv_has ls 5 [(0, .ref mh), (1, .int (iI (dy))), (2, .int (iI (dx))), (3, .int (nI ((tkm ss dy dx ss i).2))), (4, .int (nI (i)))] → W pg l ev ({ frames := 2, cells := 0, slots := 0, locals := 42 } : Room) s m (([.ref mh, .int (iI (dy)), .int (iI (dx))] : List Value).toArray) below meth c H locs 0 0 (MQ below (va_Qi (fun (r : Int32) (u : Unit) => r = nI ((tkm ss dy dx ss 64).2)) (fun (u : Unit) t9 => PP G ([(mh, .inr (8, [.int (th), .ref m1, .ref m2, .int (nI (kn)), .ref m3, .int (nI (ke)), .ref m4, .int (nI (le)), .ref m5, .int (sp), .int (wr), .int (si), .int (on), .int (tw), .int (dn)])), (m1, .inl (cI G, 205, .inl (fun z9 => iI (((tkm ss dy dx ss 64).1) z9)))), (m2, .inl (cI G, 1230, .inl (fun z9 => iI (hi z9)))), (m3, .inl (cI G, 410, .inl (fun z9 => iI (sl z9)))), (m4, .inl (cI G, 80, .inl (fun z9 => nI (tx z9)))), (m5, .inl (cI G, 128, .inl (fun z9 => iI ((neS ne ss dy dx 64) z9))))]) t9.heap) A) (([.ref mh, .int (iI (dy)), .int (iI (dx))] : List Value).toArray) s 0 0 A) (F0 m 42 ls []) := by
          intro n_42
          induction n_42 with
          | zero => intro i hn; exact absurd hn (Nat.not_lt_zero _)
          | succ n_42 ih_42 =>
            intro i hn_42 hi9 H locs ls hP hD hS hl
            refine lv_iload hx hb dX9_scrolls_42 (lv_at hl 4 rfl) ?_
            refine lv_bipush (v := nI (64)) hx hb dX9_scrolls_44 (by decide) ?_
            refine lv_icmp_ge (tgt := 98) hx hb dX9_scrolls_46 (by decide) (fun c_3 => ?_) (fun c_3 => ?_)
            · have f_4 : (64 : Int) ≤ ((i : Nat) : Int) := (c_le (nI_toInt (n := 64) (by omega)) (nI_toInt (n := i) (by omega))).mp c_3
              have e_i : i = 64 := by omega
              replace e_i := e_i.symm
              subst e_i
              refine lv_iload_n hx hb dX9_scrolls_98 rfl (lv_at hl 3 rfl) ?_
              exact xMi (G := G) (post := (fun (r : Int32) (u : Unit) => r = nI ((tkm ss dy dx ss 64).2))) (w1 := (fun (u : Unit) => [(mh, .inr (8, [.int (th), .ref m1, .ref m2, .int (nI (kn)), .ref m3, .int (nI (ke)), .ref m4, .int (nI (le)), .ref m5, .int (sp), .int (wr), .int (si), .int (on), .int (tw), .int (dn)])), (m1, .inl (cI G, 205, .inl (fun z9 => iI (((tkm ss dy dx ss 64).1) z9)))), (m2, .inl (cI G, 1230, .inl (fun z9 => iI (hi z9)))), (m3, .inl (cI G, 410, .inl (fun z9 => iI (sl z9)))), (m4, .inl (cI G, 80, .inl (fun z9 => nI (tx z9)))), (m5, .inl (cI G, 128, .inl (fun z9 => iI ((neS ne ss dy dx 64) z9))))])) (()) hx hb hr hlocks hP hS (by exact rfl) (by exact rfl) dX9_scrolls_99
            · have f_5 : ¬ (64 : Int) ≤ ((i : Nat) : Int) := fun z => c_3 ((c_le (nI_toInt (n := 64) (by omega)) (nI_toInt (n := i) (by omega))).mpr z)
              have htl := tkm_le (g := ss) (dy := dy) (dx := dx) (f := ss) i
              refine lv_iload_n hx hb dX9_scrolls_49 rfl (lv_at hl 3 rfl) ?_
              refine lv_aload_n hx hb dX9_scrolls_50 rfl (lv_at hl 0 rfl) ?_
              refine va_get (D := gD G) (cl := vwCl) (tys := tyl G) (ci := 8) (v := .ref m1) (C := RX9) (T := TX9) (N := 15) hx hb hts (by decide +kernel) hown hC.K hP 0 rfl rfl 1 (by decide) (hts (.fieldLink RX9 7 "MotionPostModel" "s" "[I") (by decide +kernel)) (fun _ h9 => h9) rfl dX9_scrolls_51 ?_
              refine lv_iconst (v := nI (0)) hx hb dX9_scrolls_54 (by decide) ?_
              refine lv_iload hx hb dX9_scrolls_55 (lv_at hl 4 rfl) ?_
              refine gAdd (z := nI (i)) hx hb dX9_scrolls_57 ((nI_add 0 _).trans (congrArg nI (Nat.zero_add _))) ?_
              refine gIald (j := i) hx hb hC.K hP 1 0 rfl rfl (rfl) (by omega) (by decide) dX9_scrolls_58 ?_
              refine lv_aload_n hx hb dX9_scrolls_59 rfl (lv_at hl 0 rfl) ?_
              refine va_get (D := gD G) (cl := vwCl) (tys := tyl G) (ci := 8) (v := .ref m5) (C := RX9) (T := TX9) (N := 15) hx hb hts (by decide +kernel) hown hC.K hP 0 rfl rfl 8 (by decide) (hts (.fieldLink RX9 22 "MotionPostModel" "next" "[I") (by decide +kernel)) (fun _ h9 => h9) rfl dX9_scrolls_60 ?_
              refine lv_iload hx hb dX9_scrolls_63 (lv_at hl 4 rfl) ?_
              refine gIald (j := i) hx hb hC.K hP 5 0 rfl rfl (rfl) (by omega) (by decide) dX9_scrolls_65 ?_
              refine topE (v' := iI (ss (fr i dy dx))) (congrArg iI (neS_at (by omega))) ?_
              have hR1 := tkm_M hMR dy dx i i (by omega)
              have hR2 := hMR.1 (fr i dy dx) (by have := fr_lt i dy dx; omega)
              refine lv_icmp_eq (tgt := 73) hx hb dX9_scrolls_66 (by decide) (fun c_6 => ?_) (fun c_6 => ?_)
              · have f_7 : (((tkm ss dy dx ss i).1) i) = (ss (fr i dy dx)) := (c_eq (iI_toInt (by omega) (by omega)) (iI_toInt (by omega) (by omega))).mp c_6
                refine lv_iconst (v := nI (0)) hx hb dX9_scrolls_73 (by decide) ?_
                refine gAdd (z := nI (((tkm ss dy dx ss i).2) + 0)) hx hb dX9_scrolls_74 (nI_add _ _) ?_
                refine lv_istore_n (lv' := [(3, .int (nI (((tkm ss dy dx ss i).2) + 0))), (0, .ref mh), (1, .int (iI (dy))), (2, .int (iI (dx))), (4, .int (nI (i)))]) hx hb dX9_scrolls_75 rfl hl (by decide) rfl (fun ls hl => ?_)
                refine lv_aload_n hx hb dX9_scrolls_76 rfl (lv_at hl 1 rfl) ?_
                refine va_get (D := gD G) (cl := vwCl) (tys := tyl G) (ci := 8) (v := .ref m1) (C := RX9) (T := TX9) (N := 15) hx hb hts (by decide +kernel) hown hC.K hP 0 rfl rfl 1 (by decide) (hts (.fieldLink RX9 7 "MotionPostModel" "s" "[I") (by decide +kernel)) (fun _ h9 => h9) rfl dX9_scrolls_77 ?_
                refine lv_iconst (v := nI (0)) hx hb dX9_scrolls_80 (by decide) ?_
                refine lv_iload hx hb dX9_scrolls_81 (lv_at hl 4 rfl) ?_
                refine gAdd (z := nI (i)) hx hb dX9_scrolls_83 ((nI_add 0 _).trans (congrArg nI (Nat.zero_add _))) ?_
                refine lv_aload_n hx hb dX9_scrolls_84 rfl (lv_at hl 1 rfl) ?_
                refine va_get (D := gD G) (cl := vwCl) (tys := tyl G) (ci := 8) (v := .ref m5) (C := RX9) (T := TX9) (N := 15) hx hb hts (by decide +kernel) hown hC.K hP 0 rfl rfl 8 (by decide) (hts (.fieldLink RX9 22 "MotionPostModel" "next" "[I") (by decide +kernel)) (fun _ h9 => h9) rfl dX9_scrolls_85 ?_
                refine lv_iload hx hb dX9_scrolls_88 (lv_at hl 4 rfl) ?_
                refine gIald (j := i) hx hb hC.K hP 5 0 rfl rfl (rfl) (by omega) (by decide) dX9_scrolls_90 ?_
                refine topE (v' := iI (ss (fr i dy dx))) (congrArg iI (neS_at (by omega))) ?_
                refine gIast (j := i) (f' := fun z9 => iI ((va_up ((tkm ss dy dx ss i).1) i (ss (fr i dy dx))) z9)) hx hb hC.K hP hD hS 1 0 rfl rfl (rfl) (by omega) (by decide) (upz_Z _ _ _) dX9_scrolls_91 (fun H locs hP hD hS => ?_)
                have hP : PP G ([(mh, .inr (8, [.int (th), .ref m1, .ref m2, .int (nI (kn)), .ref m3, .int (nI (ke)), .ref m4, .int (nI (le)), .ref m5, .int (sp), .int (wr), .int (si), .int (on), .int (tw), .int (dn)])), (m1, .inl (cI G, 205, .inl (fun z9 => iI ((va_up ((tkm ss dy dx ss i).1) i (ss (fr i dy dx))) z9)))), (m2, .inl (cI G, 1230, .inl (fun z9 => iI (hi z9)))), (m3, .inl (cI G, 410, .inl (fun z9 => iI (sl z9)))), (m4, .inl (cI G, 80, .inl (fun z9 => nI (tx z9)))), (m5, .inl (cI G, 128, .inl (fun z9 => iI ((neS ne ss dy dx 64) z9))))]) H := hP
                have hD : va_D A ([(mh, .inr (8, [.int (th), .ref m1, .ref m2, .int (nI (kn)), .ref m3, .int (nI (ke)), .ref m4, .int (nI (le)), .ref m5, .int (sp), .int (wr), .int (si), .int (on), .int (tw), .int (dn)])), (m1, .inl (cI G, 205, .inl (fun z9 => iI ((va_up ((tkm ss dy dx ss i).1) i (ss (fr i dy dx))) z9)))), (m2, .inl (cI G, 1230, .inl (fun z9 => iI (hi z9)))), (m3, .inl (cI G, 410, .inl (fun z9 => iI (sl z9)))), (m4, .inl (cI G, 80, .inl (fun z9 => nI (tx z9)))), (m5, .inl (cI G, 128, .inl (fun z9 => iI ((neS ne ss dy dx 64) z9))))]) := hD
                refine lv_iinc (v := nI (i + 1)) (lv' := [(4, .int (nI (i + 1))), (3, .int (nI (((tkm ss dy dx ss i).2) + 0))), (0, .ref mh), (1, .int (iI (dy))), (2, .int (iI (dx)))]) hx hb dX9_scrolls_92 hl (k := 4) rfl (inc_p i 1) (by decide) rfl (fun ls hl => ?_)
                refine lv_goto (tgt := 42) hx hb dX9_scrolls_95 (by decide) ?_
                exact ih_42 (i + 1) (by omega) (by omega) H locs ls hP hD hS (lv_sub hl [2, 3, 4, 1, 0] ((lvc rfl (lvc rfl (lvc rfl (lvc (congrArg Value.int (congrArg nI (rput_t (by omega)))) (lvc rfl rfl)))))))
              · have f_8 : ¬ (((tkm ss dy dx ss i).1) i) = (ss (fr i dy dx)) := fun z => c_6 ((c_eq (iI_toInt (by omega) (by omega)) (iI_toInt (by omega) (by omega))).mpr z)
                refine lv_iconst (v := nI (1)) hx hb dX9_scrolls_69 (by decide) ?_
                refine lv_goto (tgt := 74) hx hb dX9_scrolls_70 (by decide) ?_
                refine gAdd (z := nI (((tkm ss dy dx ss i).2) + 1)) hx hb dX9_scrolls_74 (nI_add _ _) ?_
                refine lv_istore_n (lv' := [(3, .int (nI (((tkm ss dy dx ss i).2) + 1))), (0, .ref mh), (1, .int (iI (dy))), (2, .int (iI (dx))), (4, .int (nI (i)))]) hx hb dX9_scrolls_75 rfl hl (by decide) rfl (fun ls hl => ?_)
                refine lv_aload_n hx hb dX9_scrolls_76 rfl (lv_at hl 1 rfl) ?_
                refine va_get (D := gD G) (cl := vwCl) (tys := tyl G) (ci := 8) (v := .ref m1) (C := RX9) (T := TX9) (N := 15) hx hb hts (by decide +kernel) hown hC.K hP 0 rfl rfl 1 (by decide) (hts (.fieldLink RX9 7 "MotionPostModel" "s" "[I") (by decide +kernel)) (fun _ h9 => h9) rfl dX9_scrolls_77 ?_
                refine lv_iconst (v := nI (0)) hx hb dX9_scrolls_80 (by decide) ?_
                refine lv_iload hx hb dX9_scrolls_81 (lv_at hl 4 rfl) ?_
                refine gAdd (z := nI (i)) hx hb dX9_scrolls_83 ((nI_add 0 _).trans (congrArg nI (Nat.zero_add _))) ?_
                refine lv_aload_n hx hb dX9_scrolls_84 rfl (lv_at hl 1 rfl) ?_
                refine va_get (D := gD G) (cl := vwCl) (tys := tyl G) (ci := 8) (v := .ref m5) (C := RX9) (T := TX9) (N := 15) hx hb hts (by decide +kernel) hown hC.K hP 0 rfl rfl 8 (by decide) (hts (.fieldLink RX9 22 "MotionPostModel" "next" "[I") (by decide +kernel)) (fun _ h9 => h9) rfl dX9_scrolls_85 ?_
                refine lv_iload hx hb dX9_scrolls_88 (lv_at hl 4 rfl) ?_
                refine gIald (j := i) hx hb hC.K hP 5 0 rfl rfl (rfl) (by omega) (by decide) dX9_scrolls_90 ?_
                refine topE (v' := iI (ss (fr i dy dx))) (congrArg iI (neS_at (by omega))) ?_
                refine gIast (j := i) (f' := fun z9 => iI ((va_up ((tkm ss dy dx ss i).1) i (ss (fr i dy dx))) z9)) hx hb hC.K hP hD hS 1 0 rfl rfl (rfl) (by omega) (by decide) (upz_Z _ _ _) dX9_scrolls_91 (fun H locs hP hD hS => ?_)
                have hP : PP G ([(mh, .inr (8, [.int (th), .ref m1, .ref m2, .int (nI (kn)), .ref m3, .int (nI (ke)), .ref m4, .int (nI (le)), .ref m5, .int (sp), .int (wr), .int (si), .int (on), .int (tw), .int (dn)])), (m1, .inl (cI G, 205, .inl (fun z9 => iI ((va_up ((tkm ss dy dx ss i).1) i (ss (fr i dy dx))) z9)))), (m2, .inl (cI G, 1230, .inl (fun z9 => iI (hi z9)))), (m3, .inl (cI G, 410, .inl (fun z9 => iI (sl z9)))), (m4, .inl (cI G, 80, .inl (fun z9 => nI (tx z9)))), (m5, .inl (cI G, 128, .inl (fun z9 => iI ((neS ne ss dy dx 64) z9))))]) H := hP
                have hD : va_D A ([(mh, .inr (8, [.int (th), .ref m1, .ref m2, .int (nI (kn)), .ref m3, .int (nI (ke)), .ref m4, .int (nI (le)), .ref m5, .int (sp), .int (wr), .int (si), .int (on), .int (tw), .int (dn)])), (m1, .inl (cI G, 205, .inl (fun z9 => iI ((va_up ((tkm ss dy dx ss i).1) i (ss (fr i dy dx))) z9)))), (m2, .inl (cI G, 1230, .inl (fun z9 => iI (hi z9)))), (m3, .inl (cI G, 410, .inl (fun z9 => iI (sl z9)))), (m4, .inl (cI G, 80, .inl (fun z9 => nI (tx z9)))), (m5, .inl (cI G, 128, .inl (fun z9 => iI ((neS ne ss dy dx 64) z9))))]) := hD
                refine lv_iinc (v := nI (i + 1)) (lv' := [(4, .int (nI (i + 1))), (3, .int (nI (((tkm ss dy dx ss i).2) + 1))), (0, .ref mh), (1, .int (iI (dy))), (2, .int (iI (dx)))]) hx hb dX9_scrolls_92 hl (k := 4) rfl (inc_p i 1) (by decide) rfl (fun ls hl => ?_)
                refine lv_goto (tgt := 42) hx hb dX9_scrolls_95 (by decide) ?_
                exact ih_42 (i + 1) (by omega) (by omega) H locs ls hP hD hS (lv_sub hl [2, 3, 4, 1, 0] ((lvc rfl (lvc rfl (lvc rfl (lvc (congrArg Value.int (congrArg nI (rput_f (by omega)))) (lvc rfl rfl)))))))
        exact L_42 (64 + 1) 0 (Nat.lt_succ_self _) (by omega) H locs ls hP hD hS (lv_sub hl [1, 2, 3, 4, 0] (lvc rfl (lvc rfl (lvc rfl (lvc (congrArg Value.int (rfl)) (lvc rfl rfl))))))
      · have f_9 : ¬ (64 : Int) ≤ ((i : Nat) : Int) := fun z => c_1 ((c_le (nI_toInt (n := 64) (by omega)) (nI_toInt (n := i) (by omega))).mpr z)
        refine lv_aload_n hx hb dX9_scrolls_12 rfl (lv_at hl 0 rfl) ?_
        refine va_get (D := gD G) (cl := vwCl) (tys := tyl G) (ci := 8) (v := .ref m5) (C := RX9) (T := TX9) (N := 15) hx hb hts (by decide +kernel) hown hC.K hP 0 rfl rfl 8 (by decide) (hts (.fieldLink RX9 22 "MotionPostModel" "next" "[I") (by decide +kernel)) (fun _ h9 => h9) rfl dX9_scrolls_13 ?_
        refine lv_iload hx hb dX9_scrolls_16 (lv_at hl 4 rfl) ?_
        refine lv_aload_n hx hb dX9_scrolls_18 rfl (lv_at hl 0 rfl) ?_
        refine va_get (D := gD G) (cl := vwCl) (tys := tyl G) (ci := 8) (v := .ref m1) (C := RX9) (T := TX9) (N := 15) hx hb hts (by decide +kernel) hown hC.K hP 0 rfl rfl 1 (by decide) (hts (.fieldLink RX9 7 "MotionPostModel" "s" "[I") (by decide +kernel)) (fun _ h9 => h9) rfl dX9_scrolls_19 ?_
        refine lv_iconst (v := nI (0)) hx hb dX9_scrolls_22 (by decide) ?_
        refine lv_iload hx hb dX9_scrolls_23 (lv_at hl 4 rfl) ?_
        refine lv_iload_n hx hb dX9_scrolls_25 rfl (lv_at hl 1 rfl) ?_
        refine lv_iload_n hx hb dX9_scrolls_26 rfl (lv_at hl 2 rfl) ?_
        refine kPi (va_runS (As := [.int (nI (i)), .int (iI (dy)), .int (iI (dx))]) (rest := [.int (nI (0)), .ref m1, .int (nI (i)), .ref m5]) ⟨hx, hb, hml, hown, hts⟩ (c_X9_from i dy dx (by first | assumption | omega) (by first | assumption | omega) (by first | assumption | omega)) (va_cwS 3 hts gX9_scrolls_X9_from rfl rfl rfl (by decide +kernel) ⟨Nat.le_of_ble_eq_true rfl, Nat.le_of_ble_eq_true rfl⟩) (preS hC hS hLo) rfl rfl hl.1 rfl (lv_room (Nat.le_of_ble_eq_true rfl)) dX9_scrolls_27 ⟨Nat.zero_le _, Nat.zero_le _⟩) hS (fun locs hS => ?_)
        have hfr := fr_lt i dy dx
        refine gAdd (z := nI (fr i dy dx)) hx hb dX9_scrolls_30 ((nI_add 0 _).trans (congrArg nI (Nat.zero_add _))) ?_
        refine gIald (j := fr i dy dx) hx hb hC.K hP 1 0 rfl rfl (rfl) (by omega) (by decide) dX9_scrolls_31 ?_
        refine gIast (j := i) (f' := fun z9 => iI ((va_up (neS ne ss dy dx i) i (ss (fr i dy dx))) z9)) hx hb hC.K hP hD hS 5 0 rfl rfl (rfl) (by omega) (by decide) (upz_Z _ _ _) dX9_scrolls_32 (fun H locs hP hD hS => ?_)
        have hP : PP G ([(mh, .inr (8, [.int (th), .ref m1, .ref m2, .int (nI (kn)), .ref m3, .int (nI (ke)), .ref m4, .int (nI (le)), .ref m5, .int (sp), .int (wr), .int (si), .int (on), .int (tw), .int (dn)])), (m1, .inl (cI G, 205, .inl (fun z9 => iI (ss z9)))), (m2, .inl (cI G, 1230, .inl (fun z9 => iI (hi z9)))), (m3, .inl (cI G, 410, .inl (fun z9 => iI (sl z9)))), (m4, .inl (cI G, 80, .inl (fun z9 => nI (tx z9)))), (m5, .inl (cI G, 128, .inl (fun z9 => iI ((va_up (neS ne ss dy dx i) i (ss (fr i dy dx))) z9))))]) H := hP
        have hD : va_D A ([(mh, .inr (8, [.int (th), .ref m1, .ref m2, .int (nI (kn)), .ref m3, .int (nI (ke)), .ref m4, .int (nI (le)), .ref m5, .int (sp), .int (wr), .int (si), .int (on), .int (tw), .int (dn)])), (m1, .inl (cI G, 205, .inl (fun z9 => iI (ss z9)))), (m2, .inl (cI G, 1230, .inl (fun z9 => iI (hi z9)))), (m3, .inl (cI G, 410, .inl (fun z9 => iI (sl z9)))), (m4, .inl (cI G, 80, .inl (fun z9 => nI (tx z9)))), (m5, .inl (cI G, 128, .inl (fun z9 => iI ((va_up (neS ne ss dy dx i) i (ss (fr i dy dx))) z9))))]) := hD
        refine lv_iinc (v := nI (i + 1)) (lv' := [(4, .int (nI (i + 1))), (0, .ref mh), (1, .int (iI (dy))), (2, .int (iI (dx))), (3, .int (nI (0)))]) hx hb dX9_scrolls_33 hl (k := 4) rfl (inc_p i 1) (by decide) rfl (fun ls hl => ?_)
        refine lv_goto (tgt := 5) hx hb dX9_scrolls_36 (by decide) ?_
        exact ih_5 (i + 1) (by omega) (by omega) H locs ls hP hD hS (lv_sub hl [1, 2, 3, 4, 0] ((lvc rfl (lvc rfl (lvc rfl (lvc rfl (lvc rfl rfl)))))))
  exact L_5 (64 + 1) 0 (Nat.lt_succ_self _) (by omega) s.heap locs ls hP hD hS (lv_sub hl [2, 3, 4, 1, 0] (lvc rfl (lvc rfl (lvc rfl (lvc rfl (lvc rfl rfl))))))
