set_option maxHeartbeats 4000000 in
set_option maxRecDepth 100000 in
theorem c_X8_pixelIn {l : Launch} {G : GT} {H0 : Heap} (b i : Nat) (hb4 : b < 4) (hi16 : i < 16) : Met l yX8_pixelIn wsX8_pixelIn ({ frames := 0, cells := 0, slots := 0, locals := 0 } : Room) (pcG G [.int (nI (b)), .int (nI (i))] H0) (qPi (nI (px b i)) H0) 0 0 noF := by
  refine enter (cc := cX8_pixelIn) (maxL := 4) (ret := some .int) (own := RX8) (lv := [(0, .int (nI (b))), (1, .int (nI (i)))]) (by decide) rfl rfl rfl (Nat.le_of_ble_eq_true rfl) ?_
  intro pg ev s m below meth c hx hb hr hts hown hlocks hml hnm hH hC ls hl
  subst hH
  have hLo : ∀ q, noF q → lo G q := fun _ h => h.elim
  have hS : va_S noF s.heap s.heap [] := va_S.rf
  generalize ([] : List Loc) = locs at hS ⊢
  refine lv_iconst (v := nI (4)) hx hb dX8_pixelIn_0 (by decide) ?_
  refine lv_iload_n hx hb dX8_pixelIn_1 rfl (lv_at hl 0 rfl) ?_
  refine lv_iconst (v := nI (2)) hx hb dX8_pixelIn_2 (by decide) ?_
  refine gDiv (z := nI (b / 2)) hx hb dX8_pixelIn_3 (nI_ne0 (by omega) (by omega)) (pk_div (by omega) (by omega) (by omega)) ?_
  refine gMul (z := nI (4 * (b / 2))) hx hb dX8_pixelIn_4 (pk_mul _ _) ?_
  refine lv_iload_n hx hb dX8_pixelIn_5 rfl (lv_at hl 1 rfl) ?_
  refine lv_iconst (v := nI (4)) hx hb dX8_pixelIn_6 (by decide) ?_
  refine gDiv (z := nI (i / 4)) hx hb dX8_pixelIn_7 (nI_ne0 (by omega) (by omega)) (pk_div (by omega) (by omega) (by omega)) ?_
  refine gAdd (z := nI ((4 * (b / 2)) + (i / 4))) hx hb dX8_pixelIn_8 (nI_add _ _) ?_
  refine lv_istore_n (lv' := [(2, .int (nI ((4 * (b / 2)) + (i / 4)))), (0, .int (nI (b))), (1, .int (nI (i)))]) hx hb dX8_pixelIn_9 rfl hl (by decide) rfl (fun ls hl => ?_)
  refine lv_iconst (v := nI (4)) hx hb dX8_pixelIn_10 (by decide) ?_
  refine lv_iload_n hx hb dX8_pixelIn_11 rfl (lv_at hl 1 rfl) ?_
  refine lv_iconst (v := nI (2)) hx hb dX8_pixelIn_12 (by decide) ?_
  refine gRem (z := nI (b % 2)) hx hb dX8_pixelIn_13 (nI_ne0 (by omega) (by omega)) (pk_rem (by omega) (by omega) (by omega)) ?_
  refine gMul (z := nI (4 * (b % 2))) hx hb dX8_pixelIn_14 (pk_mul _ _) ?_
  refine lv_iload_n hx hb dX8_pixelIn_15 rfl (lv_at hl 2 rfl) ?_
  refine lv_iconst (v := nI (4)) hx hb dX8_pixelIn_16 (by decide) ?_
  refine gRem (z := nI (i % 4)) hx hb dX8_pixelIn_17 (nI_ne0 (by omega) (by omega)) (pk_rem (by omega) (by omega) (by omega)) ?_
  refine gAdd (z := nI ((4 * (b % 2)) + (i % 4))) hx hb dX8_pixelIn_18 (nI_add _ _) ?_
  refine lv_istore_n (lv' := [(3, .int (nI ((4 * (b % 2)) + (i % 4)))), (2, .int (nI ((4 * (b / 2)) + (i / 4)))), (0, .int (nI (b))), (1, .int (nI (i)))]) hx hb dX8_pixelIn_19 rfl hl (by decide) rfl (fun ls hl => ?_)
  refine lv_bipush (v := nI (8)) hx hb dX8_pixelIn_20 (by decide) ?_
  refine lv_iload_n hx hb dX8_pixelIn_22 rfl (lv_at hl 1 rfl) ?_
  refine gMul (z := nI (8 * ((4 * (b / 2)) + (i / 4)))) hx hb dX8_pixelIn_23 (pk_mul _ _) ?_
  refine lv_iload_n hx hb dX8_pixelIn_24 rfl (lv_at hl 0 rfl) ?_
  refine gAdd (z := nI ((8 * ((4 * (b / 2)) + (i / 4))) + ((4 * (b % 2)) + (i % 4)))) hx hb dX8_pixelIn_25 (nI_add _ _) ?_
  exact xPi hx hb hr hlocks hS (by exact rfl) (by exact rfl) dX8_pixelIn_26

set_option maxHeartbeats 4000000 in
set_option maxRecDepth 100000 in
theorem c_X8_downOf {l : Launch} {G : GT} {H0 : Heap} (m0 : Nat) (hm : m0 < 25) : Met l yX8_downOf wsX8_downOf ({ frames := 0, cells := 0, slots := 0, locals := 0 } : Room) (pcG G [.int (nI (m0))] H0) (qPi (iI (mdn m0)) H0) 0 0 noF := by
  refine enter (cc := cX8_downOf) (maxL := 1) (ret := some .int) (own := RX8) (lv := [(0, .int (nI (m0)))]) (by decide) rfl rfl rfl (Nat.le_of_ble_eq_true rfl) ?_
  intro pg ev s m below meth c hx hb hr hts hown hlocks hml hnm hH hC ls hl
  subst hH
  have hLo : ∀ q, noF q → lo G q := fun _ h => h.elim
  have hS : va_S noF s.heap s.heap [] := va_S.rf
  generalize ([] : List Loc) = locs at hS ⊢
  refine lv_iload_n hx hb dX8_downOf_0 rfl (lv_at hl 0 rfl) ?_
  refine lv_iconst (v := nI (5)) hx hb dX8_downOf_1 (by decide) ?_
  refine gDiv (z := nI (m0 / 5)) hx hb dX8_downOf_2 (nI_ne0 (by omega) (by omega)) (pk_div (by omega) (by omega) (by omega)) ?_
  refine lv_iconst (v := nI (2)) hx hb dX8_downOf_3 (by decide) ?_
  refine gSub (z := iI (((m0 / 5 : Nat) : Int) - (2 : Int))) hx hb dX8_downOf_4 (z_sub (nI_i (m0 / 5)) (nI_i (2))) ?_
  exact xPi hx hb hr hlocks hS (by exact rfl) (by exact rfl) dX8_downOf_5

set_option maxHeartbeats 4000000 in
set_option maxRecDepth 100000 in
theorem c_X8_rightOf {l : Launch} {G : GT} {H0 : Heap} (m0 : Nat) (hm : m0 < 25) : Met l yX8_rightOf wsX8_rightOf ({ frames := 0, cells := 0, slots := 0, locals := 0 } : Room) (pcG G [.int (nI (m0))] H0) (qPi (iI (mrt m0)) H0) 0 0 noF := by
  refine enter (cc := cX8_rightOf) (maxL := 1) (ret := some .int) (own := RX8) (lv := [(0, .int (nI (m0)))]) (by decide) rfl rfl rfl (Nat.le_of_ble_eq_true rfl) ?_
  intro pg ev s m below meth c hx hb hr hts hown hlocks hml hnm hH hC ls hl
  subst hH
  have hLo : ∀ q, noF q → lo G q := fun _ h => h.elim
  have hS : va_S noF s.heap s.heap [] := va_S.rf
  generalize ([] : List Loc) = locs at hS ⊢
  refine lv_iload_n hx hb dX8_rightOf_0 rfl (lv_at hl 0 rfl) ?_
  refine lv_iconst (v := nI (5)) hx hb dX8_rightOf_1 (by decide) ?_
  refine gRem (z := nI (m0 % 5)) hx hb dX8_rightOf_2 (nI_ne0 (by omega) (by omega)) (pk_rem (by omega) (by omega) (by omega)) ?_
  refine lv_iconst (v := nI (2)) hx hb dX8_rightOf_3 (by decide) ?_
  refine gSub (z := iI (((m0 % 5 : Nat) : Int) - (2 : Int))) hx hb dX8_rightOf_4 (z_sub (nI_i (m0 % 5)) (nI_i (2))) ?_
  exact xPi hx hb hr hlocks hS (by exact rfl) (by exact rfl) dX8_rightOf_5

set_option maxHeartbeats 4000000 in
set_option maxRecDepth 100000 in
theorem c_X4_valueAt {l : Launch} {G : GT} {H0 : Heap} (h q : Nat) (f : Nat → Int) (p : Nat) (hp : p < 64) (hP0 : PP G ([(h, .inr (3, [.ref q])), (q, .inl (cI G, 64, .inl (fun z9 => iI (f z9))))]) H0) : Met l yX4_valueAt wsX4_valueAt ({ frames := 0, cells := 0, slots := 0, locals := 0 } : Room) (pcG G [.ref h, .int (nI (p))] H0) (qPi (iI (f p)) H0) 0 0 noF := by
  refine enter (cc := cX4_valueAt) (maxL := 2) (ret := some .int) (own := RX4) (lv := [(0, .ref h), (1, .int (nI (p)))]) (by decide) rfl rfl rfl (Nat.le_of_ble_eq_true rfl) ?_
  intro pg ev s m below meth c hx hb hr hts hown hlocks hml hnm hH hC ls hl
  subst hH
  have hLo : ∀ q, noF q → lo G q := fun _ h => h.elim
  have hS : va_S noF s.heap s.heap [] := va_S.rf
  generalize ([] : List Loc) = locs at hS ⊢
  have hP := hP0
  refine lv_iload_n hx hb dX4_valueAt_0 rfl (lv_at hl 1 rfl) ?_
  refine lv_if_lt (tgt := 10) hx hb dX4_valueAt_1 (by decide) (fun c_1 => ?_) (fun c_1 => ?_)
  · have f_2 : ((p : Nat) : Int) < (0 : Int) := (c_lt (nI_toInt (n := p) (by omega)) rfl).mp c_1
    exfalso; omega
  · have f_3 : ¬ ((p : Nat) : Int) < (0 : Int) := fun z => c_1 ((c_lt (nI_toInt (n := p) (by omega)) rfl).mpr z)
    refine lv_iload_n hx hb dX4_valueAt_4 rfl (lv_at hl 1 rfl) ?_
    refine lv_bipush (v := nI (64)) hx hb dX4_valueAt_5 (by decide) ?_
    refine lv_icmp_lt (tgt := 14) hx hb dX4_valueAt_7 (by decide) (fun c_4 => ?_) (fun c_4 => ?_)
    · have f_5 : ((p : Nat) : Int) < (64 : Int) := (c_lt (nI_toInt (n := p) (by omega)) (nI_toInt (n := 64) (by omega))).mp c_4
      refine lv_aload_n hx hb dX4_valueAt_14 rfl (lv_at hl 0 rfl) ?_
      refine va_get (D := gD G) (cl := vwCl) (tys := tyl G) (ci := 3) (v := .ref q) (C := RX4) (T := TX4) (N := 1) hx hb hts (by decide +kernel) hown hC.K hP 0 rfl rfl 0 (by decide) (hts (.fieldLink RX4 9 "MotionPost$Picture" "values" "[I") (by decide +kernel)) (fun _ h9 => h9) rfl dX4_valueAt_15 ?_
      refine lv_iload_n hx hb dX4_valueAt_18 rfl (lv_at hl 1 rfl) ?_
      refine gIald (j := p) hx hb hC.K hP 1 0 rfl rfl (rfl) (by omega) (by decide) dX4_valueAt_19 ?_
      exact xPi hx hb hr hlocks hS (by exact rfl) (by exact rfl) dX4_valueAt_20
    · have f_6 : ¬ ((p : Nat) : Int) < (64 : Int) := fun z => c_4 ((c_lt (nI_toInt (n := p) (by omega)) (nI_toInt (n := 64) (by omega))).mpr z)
      exfalso; omega

set_option maxHeartbeats 4000000 in
set_option maxRecDepth 100000 in
theorem c_X4_movedValueAt {l : Launch} {G : GT} {H0 : Heap} (h q : Nat) (f : Nat → Int) (p : Nat) (dy dx : Int) (hp : p < 64) (hdy : -2 ≤ dy ∧ dy ≤ 2) (hdx : -2 ≤ dx ∧ dx ≤ 2) (hP0 : PP G ([(h, .inr (3, [.ref q])), (q, .inl (cI G, 64, .inl (fun z9 => iI (f z9))))]) H0) : Met l yX4_movedValueAt wsX4_movedValueAt ({ frames := 0, cells := 0, slots := 0, locals := 0 } : Room) (pcG G [.ref h, .int (nI (p)), .int (iI (dy)), .int (iI (dx))] H0) (qPi (iI (f (fr p dy dx))) H0) 0 0 noF := by
  refine enter (cc := cX4_movedValueAt) (maxL := 6) (ret := some .int) (own := RX4) (lv := [(0, .ref h), (1, .int (nI (p))), (2, .int (iI (dy))), (3, .int (iI (dx)))]) (by decide) rfl rfl rfl (Nat.le_of_ble_eq_true rfl) ?_
  intro pg ev s m below meth c hx hb hr hts hown hlocks hml hnm hH hC ls hl
  subst hH
  have hLo : ∀ q, noF q → lo G q := fun _ h => h.elim
  have hS : va_S noF s.heap s.heap [] := va_S.rf
  generalize ([] : List Loc) = locs at hS ⊢
  have hP := hP0
  refine lv_iload_n hx hb dX4_movedValueAt_0 rfl (lv_at hl 1 rfl) ?_
  refine lv_bipush (v := nI (8)) hx hb dX4_movedValueAt_1 (by decide) ?_
  refine gDiv (z := nI (p / 8)) hx hb dX4_movedValueAt_3 (nI_ne0 (by omega) (by omega)) (pk_div (by omega) (by omega) (by omega)) ?_
  refine lv_iload_n hx hb dX4_movedValueAt_4 rfl (lv_at hl 2 rfl) ?_
  refine gAdd (z := iI (((p / 8 : Nat) : Int) + (dy))) hx hb dX4_movedValueAt_5 (z_add (nI_i (p / 8)) rfl) ?_
  refine lv_istore (lv' := [(4, .int (iI (((p / 8 : Nat) : Int) + (dy)))), (0, .ref h), (1, .int (nI (p))), (2, .int (iI (dy))), (3, .int (iI (dx)))]) hx hb dX4_movedValueAt_6 hl (by decide) rfl (fun ls hl => ?_)
  refine lv_iload_n hx hb dX4_movedValueAt_8 rfl (lv_at hl 2 rfl) ?_
  refine lv_bipush (v := nI (8)) hx hb dX4_movedValueAt_9 (by decide) ?_
  refine gRem (z := nI (p % 8)) hx hb dX4_movedValueAt_11 (nI_ne0 (by omega) (by omega)) (pk_rem (by omega) (by omega) (by omega)) ?_
  refine lv_iload_n hx hb dX4_movedValueAt_12 rfl (lv_at hl 4 rfl) ?_
  refine gAdd (z := iI (((p % 8 : Nat) : Int) + (dx))) hx hb dX4_movedValueAt_13 (z_add (nI_i (p % 8)) rfl) ?_
  refine lv_istore (lv' := [(5, .int (iI (((p % 8 : Nat) : Int) + (dx)))), (4, .int (iI (((p / 8 : Nat) : Int) + (dy)))), (0, .ref h), (1, .int (nI (p))), (2, .int (iI (dy))), (3, .int (iI (dx)))]) hx hb dX4_movedValueAt_14 hl (by decide) rfl (fun ls hl => ?_)
  have J_39 : ∀ (locs : List Loc) (ls : Array Slot), va_S noF s.heap s.heap locs → lv_has ls 6 [(0, .ref h), (1, .int (nI (p))), (2, .int (iI (dy))), (3, .int (iI (dx))), (4, .int (iI (((p / 8 : Nat) : Int) + (dy)))), (5, .int (iI (((p % 8 : Nat) : Int) + (dx))))] → W pg l ev ({ frames := 0, cells := 0, slots := 0, locals := 0 } : Room) s m (([.ref h, .int (nI (p)), .int (iI (dy)), .int (iI (dx))] : List Value).toArray) below meth c s.heap locs 0 0 (MQ below (qPi (iI (f (fr p dy dx))) s.heap) (([.ref h, .int (nI (p)), .int (iI (dy)), .int (iI (dx))] : List Value).toArray) s 0 0 noF) (F0 m 39 ls [.int (nI (ed (((p / 8 : Nat) : Int) + (dy))))]) := by
    intro locs ls hS hl
    refine lv_istore (lv' := [(4, .int (nI (ed (((p / 8 : Nat) : Int) + (dy))))), (0, .ref h), (1, .int (nI (p))), (2, .int (iI (dy))), (3, .int (iI (dx))), (5, .int (iI (((p % 8 : Nat) : Int) + (dx))))]) hx hb dX4_movedValueAt_39 hl (by decide) rfl (fun ls hl => ?_)
    have J_64 : ∀ (locs : List Loc) (ls : Array Slot), va_S noF s.heap s.heap locs → lv_has ls 6 [(0, .ref h), (1, .int (nI (p))), (2, .int (iI (dy))), (3, .int (iI (dx))), (4, .int (nI (ed (((p / 8 : Nat) : Int) + (dy))))), (5, .int (iI (((p % 8 : Nat) : Int) + (dx))))] → W pg l ev ({ frames := 0, cells := 0, slots := 0, locals := 0 } : Room) s m (([.ref h, .int (nI (p)), .int (iI (dy)), .int (iI (dx))] : List Value).toArray) below meth c s.heap locs 0 0 (MQ below (qPi (iI (f (fr p dy dx))) s.heap) (([.ref h, .int (nI (p)), .int (iI (dy)), .int (iI (dx))] : List Value).toArray) s 0 0 noF) (F0 m 64 ls [.int (nI (ed (((p % 8 : Nat) : Int) + (dx))))]) := by
      intro locs ls hS hl
      refine lv_istore (lv' := [(5, .int (nI (ed (((p % 8 : Nat) : Int) + (dx))))), (0, .ref h), (1, .int (nI (p))), (2, .int (iI (dy))), (3, .int (iI (dx))), (4, .int (nI (ed (((p / 8 : Nat) : Int) + (dy)))))]) hx hb dX4_movedValueAt_64 hl (by decide) rfl (fun ls hl => ?_)
      refine lv_aload_n hx hb dX4_movedValueAt_66 rfl (lv_at hl 1 rfl) ?_
      refine va_get (D := gD G) (cl := vwCl) (tys := tyl G) (ci := 3) (v := .ref q) (C := RX4) (T := TX4) (N := 1) hx hb hts (by decide +kernel) hown hC.K hP 0 rfl rfl 0 (by decide) (hts (.fieldLink RX4 9 "MotionPost$Picture" "values" "[I") (by decide +kernel)) (fun _ h9 => h9) rfl dX4_movedValueAt_67 ?_
      refine lv_bipush (v := nI (8)) hx hb dX4_movedValueAt_70 (by decide) ?_
      refine lv_iload hx hb dX4_movedValueAt_72 (lv_at hl 5 rfl) ?_
      refine gMul (z := nI (8 * (ed (((p / 8 : Nat) : Int) + (dy))))) hx hb dX4_movedValueAt_74 (pk_mul _ _) ?_
      refine lv_iload hx hb dX4_movedValueAt_75 (lv_at hl 0 rfl) ?_
      refine gAdd (z := nI ((8 * (ed (((p / 8 : Nat) : Int) + (dy)))) + (ed (((p % 8 : Nat) : Int) + (dx))))) hx hb dX4_movedValueAt_77 (nI_add _ _) ?_
      refine gIald (j := fr p dy dx) hx hb hC.K hP 1 0 rfl rfl (rfl) (fr_lt p dy dx) (by decide) dX4_movedValueAt_78 ?_
      exact xPi hx hb hr hlocks hS (by exact rfl) (by exact rfl) dX4_movedValueAt_79
    refine lv_iload hx hb dX4_movedValueAt_41 (lv_at hl 5 rfl) ?_
    refine lv_if_ge (tgt := 50) hx hb dX4_movedValueAt_43 (by decide) (fun c_1 => ?_) (fun c_1 => ?_)
    · have f_2 : (0 : Int) ≤ (((p % 8 : Nat) : Int) + (dx)) := (c_le rfl (iI_toInt (by omega) (by omega))).mp c_1
      refine lv_iload hx hb dX4_movedValueAt_50 (lv_at hl 5 rfl) ?_
      refine lv_bipush (v := nI (8)) hx hb dX4_movedValueAt_52 (by decide) ?_
      refine lv_icmp_lt (tgt := 62) hx hb dX4_movedValueAt_54 (by decide) (fun c_3 => ?_) (fun c_3 => ?_)
      · have f_4 : (((p % 8 : Nat) : Int) + (dx)) < (8 : Int) := (c_lt (iI_toInt (by omega) (by omega)) (nI_toInt (n := 8) (by omega))).mp c_3
        refine lv_iload hx hb dX4_movedValueAt_62 (lv_at hl 5 rfl) ?_
        refine topE (v' := nI (ed (((p % 8 : Nat) : Int) + (dx)))) (by first | exact ed_lo (by omega) | exact ed_hi (by omega) | exact ed_mid (by omega) (by omega)) ?_
        exact J_64 locs ls hS (lv_sub hl [1, 2, 3, 4, 0, 5] (rfl))
      · have f_5 : ¬ (((p % 8 : Nat) : Int) + (dx)) < (8 : Int) := fun z => c_3 ((c_lt (iI_toInt (by omega) (by omega)) (nI_toInt (n := 8) (by omega))).mpr z)
        refine lv_bipush (v := nI (7)) hx hb dX4_movedValueAt_57 (by decide) ?_
        refine lv_goto (tgt := 64) hx hb dX4_movedValueAt_59 (by decide) ?_
        refine topE (v' := nI (ed (((p % 8 : Nat) : Int) + (dx)))) (by first | exact ed_lo (by omega) | exact ed_hi (by omega) | exact ed_mid (by omega) (by omega)) ?_
        exact J_64 locs ls hS (lv_sub hl [1, 2, 3, 4, 0, 5] (rfl))
    · have f_6 : ¬ (0 : Int) ≤ (((p % 8 : Nat) : Int) + (dx)) := fun z => c_1 ((c_le rfl (iI_toInt (by omega) (by omega))).mpr z)
      refine lv_iconst (v := nI (0)) hx hb dX4_movedValueAt_46 (by decide) ?_
      refine lv_goto (tgt := 64) hx hb dX4_movedValueAt_47 (by decide) ?_
      refine topE (v' := nI (ed (((p % 8 : Nat) : Int) + (dx)))) (by first | exact ed_lo (by omega) | exact ed_hi (by omega) | exact ed_mid (by omega) (by omega)) ?_
      exact J_64 locs ls hS (lv_sub hl [1, 2, 3, 4, 0, 5] (rfl))
  refine lv_iload hx hb dX4_movedValueAt_16 (lv_at hl 1 rfl) ?_
  refine lv_if_ge (tgt := 25) hx hb dX4_movedValueAt_18 (by decide) (fun c_7 => ?_) (fun c_7 => ?_)
  · have f_8 : (0 : Int) ≤ (((p / 8 : Nat) : Int) + (dy)) := (c_le rfl (iI_toInt (by omega) (by omega))).mp c_7
    refine lv_iload hx hb dX4_movedValueAt_25 (lv_at hl 1 rfl) ?_
    refine lv_bipush (v := nI (8)) hx hb dX4_movedValueAt_27 (by decide) ?_
    refine lv_icmp_lt (tgt := 37) hx hb dX4_movedValueAt_29 (by decide) (fun c_9 => ?_) (fun c_9 => ?_)
    · have f_10 : (((p / 8 : Nat) : Int) + (dy)) < (8 : Int) := (c_lt (iI_toInt (by omega) (by omega)) (nI_toInt (n := 8) (by omega))).mp c_9
      refine lv_iload hx hb dX4_movedValueAt_37 (lv_at hl 1 rfl) ?_
      refine topE (v' := nI (ed (((p / 8 : Nat) : Int) + (dy)))) (by first | exact ed_lo (by omega) | exact ed_hi (by omega) | exact ed_mid (by omega) (by omega)) ?_
      exact J_39 locs ls hS (lv_sub hl [2, 3, 4, 5, 1, 0] (rfl))
    · have f_11 : ¬ (((p / 8 : Nat) : Int) + (dy)) < (8 : Int) := fun z => c_9 ((c_lt (iI_toInt (by omega) (by omega)) (nI_toInt (n := 8) (by omega))).mpr z)
      refine lv_bipush (v := nI (7)) hx hb dX4_movedValueAt_32 (by decide) ?_
      refine lv_goto (tgt := 39) hx hb dX4_movedValueAt_34 (by decide) ?_
      refine topE (v' := nI (ed (((p / 8 : Nat) : Int) + (dy)))) (by first | exact ed_lo (by omega) | exact ed_hi (by omega) | exact ed_mid (by omega) (by omega)) ?_
      exact J_39 locs ls hS (lv_sub hl [2, 3, 4, 5, 1, 0] (rfl))
  · have f_12 : ¬ (0 : Int) ≤ (((p / 8 : Nat) : Int) + (dy)) := fun z => c_7 ((c_le rfl (iI_toInt (by omega) (by omega))).mpr z)
    refine lv_iconst (v := nI (0)) hx hb dX4_movedValueAt_21 (by decide) ?_
    refine lv_goto (tgt := 39) hx hb dX4_movedValueAt_22 (by decide) ?_
    refine topE (v' := nI (ed (((p / 8 : Nat) : Int) + (dy)))) (by first | exact ed_lo (by omega) | exact ed_hi (by omega) | exact ed_mid (by omega) (by omega)) ?_
    exact J_39 locs ls hS (lv_sub hl [2, 3, 4, 5, 1, 0] (rfl))

set_option maxHeartbeats 4000000 in
set_option maxRecDepth 100000 in
theorem c_X4_put {l : Launch} {G : GT} {H0 : Heap} (h q : Nat) (f : Nat → Int) (p : Nat) (v : Int) (hp : p < 64) (hP0 : PP G ([(h, .inr (3, [.ref q])), (q, .inl (cI G, 64, .inl (fun z9 => iI (f z9))))]) H0) (hB0 : va_D (lo G) ([(h, .inr (3, [.ref q])), (q, .inl (cI G, 64, .inl (fun z9 => iI (f z9))))])) : Met l yX4_put wsX4_put ({ frames := 0, cells := 0, slots := 0, locals := 0 } : Room) (pcG G [.ref h, .int (nI (p)), .int (iI (v))] H0) (qMi G (fun (r : Int32) (u : Unit) => r = iI (f p)) (fun (u : Unit) => [(h, .inr (3, [.ref q])), (q, .inl (cI G, 64, .inl (fun z9 => iI ((va_up f p v) z9))))]) ([(h, .inr (3, [.ref q])), (q, .inl (cI G, 64, .inl (fun z9 => iI (f z9))))]) H0) 0 0 (va_A ([(h, .inr (3, [.ref q])), (q, .inl (cI G, 64, .inl (fun z9 => iI (f z9))))]) H0.size) := by
  refine enter (cc := cX4_put) (maxL := 4) (ret := some .int) (own := RX4) (lv := [(0, .ref h), (1, .int (nI (p))), (2, .int (iI (v)))]) (by decide) rfl rfl rfl (Nat.le_of_ble_eq_true rfl) ?_
  intro pg ev s m below meth c hx hb hr hts hown hlocks hml hnm hH hC ls hl
  subst hH
  have hLo := va_freeB hB0 hC.2.2.2.1
  have hD := hB0.self (sz := s.heap.size)
  have hS : va_S (va_A ([(h, .inr (3, [.ref q])), (q, .inl (cI G, 64, .inl (fun z9 => iI (f z9))))]) s.heap.size) s.heap s.heap [] := va_S.rf
  unfold qMi
  generalize hAe : va_A ([(h, .inr (3, [.ref q])), (q, .inl (cI G, 64, .inl (fun z9 => iI (f z9))))]) s.heap.size = A at hD hLo hS ⊢
  have hA : ∀ q, s.heap.size ≤ q → A q := fun q h => by rw [← hAe]; exact Or.inr h
  generalize ([] : List Loc) = locs at hS ⊢
  have hP := hP0
  refine lv_iload_n hx hb dX4_put_0 rfl (lv_at hl 1 rfl) ?_
  refine lv_if_lt (tgt := 10) hx hb dX4_put_1 (by decide) (fun c_1 => ?_) (fun c_1 => ?_)
  · have f_2 : ((p : Nat) : Int) < (0 : Int) := (c_lt (nI_toInt (n := p) (by omega)) rfl).mp c_1
    exfalso; omega
  · have f_3 : ¬ ((p : Nat) : Int) < (0 : Int) := fun z => c_1 ((c_lt (nI_toInt (n := p) (by omega)) rfl).mpr z)
    refine lv_iload_n hx hb dX4_put_4 rfl (lv_at hl 1 rfl) ?_
    refine lv_bipush (v := nI (64)) hx hb dX4_put_5 (by decide) ?_
    refine lv_icmp_lt (tgt := 12) hx hb dX4_put_7 (by decide) (fun c_4 => ?_) (fun c_4 => ?_)
    · have f_5 : ((p : Nat) : Int) < (64 : Int) := (c_lt (nI_toInt (n := p) (by omega)) (nI_toInt (n := 64) (by omega))).mp c_4
      refine lv_aload_n hx hb dX4_put_12 rfl (lv_at hl 0 rfl) ?_
      refine va_get (D := gD G) (cl := vwCl) (tys := tyl G) (ci := 3) (v := .ref q) (C := RX4) (T := TX4) (N := 1) hx hb hts (by decide +kernel) hown hC.K hP 0 rfl rfl 0 (by decide) (hts (.fieldLink RX4 9 "MotionPost$Picture" "values" "[I") (by decide +kernel)) (fun _ h9 => h9) rfl dX4_put_13 ?_
      refine lv_iload_n hx hb dX4_put_16 rfl (lv_at hl 1 rfl) ?_
      refine gIald (j := p) hx hb hC.K hP 1 0 rfl rfl (rfl) (by omega) (by decide) dX4_put_17 ?_
      refine lv_istore_n (lv' := [(3, .int (iI (f p))), (0, .ref h), (1, .int (nI (p))), (2, .int (iI (v)))]) hx hb dX4_put_18 rfl hl (by decide) rfl (fun ls hl => ?_)
      refine lv_aload_n hx hb dX4_put_19 rfl (lv_at hl 1 rfl) ?_
      refine va_get (D := gD G) (cl := vwCl) (tys := tyl G) (ci := 3) (v := .ref q) (C := RX4) (T := TX4) (N := 1) hx hb hts (by decide +kernel) hown hC.K hP 0 rfl rfl 0 (by decide) (hts (.fieldLink RX4 9 "MotionPost$Picture" "values" "[I") (by decide +kernel)) (fun _ h9 => h9) rfl dX4_put_20 ?_
      refine lv_iload_n hx hb dX4_put_23 rfl (lv_at hl 2 rfl) ?_
      refine lv_iload_n hx hb dX4_put_24 rfl (lv_at hl 3 rfl) ?_
      refine gIast (j := p) (f' := fun z9 => iI ((va_up f p (v)) z9)) hx hb hC.K hP hD hS 1 0 rfl rfl (rfl) (by omega) (by decide) (upz_Z _ _ _) dX4_put_25 (fun H locs hP hD hS => ?_)
      have hP : PP G ([(h, .inr (3, [.ref q])), (q, .inl (cI G, 64, .inl (fun z9 => iI ((va_up f p (v)) z9))))]) H := hP
      have hD : va_D A ([(h, .inr (3, [.ref q])), (q, .inl (cI G, 64, .inl (fun z9 => iI ((va_up f p (v)) z9))))]) := hD
      refine lv_iload_n hx hb dX4_put_26 rfl (lv_at hl 0 rfl) ?_
      exact xMi (G := G) (post := (fun (r : Int32) (u : Unit) => r = iI (f p))) (w1 := (fun (u : Unit) => [(h, .inr (3, [.ref q])), (q, .inl (cI G, 64, .inl (fun z9 => iI ((va_up f p v) z9))))])) (()) hx hb hr hlocks hP hS (by exact rfl) (by exact rfl) dX4_put_27
    · have f_6 : ¬ ((p : Nat) : Int) < (64 : Int) := fun z => c_4 ((c_lt (nI_toInt (n := p) (by omega)) (nI_toInt (n := 64) (by omega))).mpr z)
      exfalso; omega

set_option maxHeartbeats 4000000 in
set_option maxRecDepth 100000 in
theorem c_X4_copyFrom {l : Launch} {G : GT} {H0 : Heap} (h q : Nat) (f : Nat → Int) (h2 q2 : Nat) (f2 : Nat → Int)  (hP0 : PP G ([(h, .inr (3, [.ref q])), (q, .inl (cI G, 64, .inl (fun z9 => iI (f z9)))), (h2, .inr (3, [.ref q2])), (q2, .inl (cI G, 64, .inl (fun z9 => iI (f2 z9))))]) H0) (hB0 : va_D (lo G) ([(h, .inr (3, [.ref q])), (q, .inl (cI G, 64, .inl (fun z9 => iI (f z9)))), (h2, .inr (3, [.ref q2])), (q2, .inl (cI G, 64, .inl (fun z9 => iI (f2 z9))))])) : Met l yX4_copyFrom wsX4_copyFrom ({ frames := 1, cells := 0, slots := 0, locals := 24 } : Room) (pcG G [.ref h, .ref h2] H0) (qMv G (fun (u : Unit) => u = ()) (fun (u : Unit) => [(h, .inr (3, [.ref q])), (q, .inl (cI G, 64, .inl (fun z9 => iI (f2 z9)))), (h2, .inr (3, [.ref q2])), (q2, .inl (cI G, 64, .inl (fun z9 => iI (f2 z9))))]) ([(h, .inr (3, [.ref q])), (q, .inl (cI G, 64, .inl (fun z9 => iI (f z9)))), (h2, .inr (3, [.ref q2])), (q2, .inl (cI G, 64, .inl (fun z9 => iI (f2 z9))))]) H0) 0 0 (va_A ([(h, .inr (3, [.ref q])), (q, .inl (cI G, 64, .inl (fun z9 => iI (f z9)))), (h2, .inr (3, [.ref q2])), (q2, .inl (cI G, 64, .inl (fun z9 => iI (f2 z9))))]) H0.size) := by
  refine enter (cc := cX4_copyFrom) (maxL := 2) (ret := none) (own := RX4) (lv := [(0, .ref h), (1, .ref h2)]) (by decide) rfl rfl rfl (Nat.le_of_ble_eq_true rfl) ?_
  intro pg ev s m below meth c hx hb hr hts hown hlocks hml hnm hH hC ls hl
  subst hH
  have hLo := va_freeB hB0 hC.2.2.2.1
  have hD := hB0.self (sz := s.heap.size)
  have hS : va_S (va_A ([(h, .inr (3, [.ref q])), (q, .inl (cI G, 64, .inl (fun z9 => iI (f z9)))), (h2, .inr (3, [.ref q2])), (q2, .inl (cI G, 64, .inl (fun z9 => iI (f2 z9))))]) s.heap.size) s.heap s.heap [] := va_S.rf
  unfold qMv
  generalize hAe : va_A ([(h, .inr (3, [.ref q])), (q, .inl (cI G, 64, .inl (fun z9 => iI (f z9)))), (h2, .inr (3, [.ref q2])), (q2, .inl (cI G, 64, .inl (fun z9 => iI (f2 z9))))]) s.heap.size = A at hD hLo hS ⊢
  have hA : ∀ q, s.heap.size ≤ q → A q := fun q h => by rw [← hAe]; exact Or.inr h
  generalize ([] : List Loc) = locs at hS ⊢
  have hP := hP0
  refine lv_aload_n hx hb dX4_copyFrom_0 rfl (lv_at hl 1 rfl) ?_
  refine va_get (D := gD G) (cl := vwCl) (tys := tyl G) (ci := 3) (v := .ref q2) (C := RX4) (T := TX4) (N := 1) hx hb hts (by decide +kernel) hown hC.K hP 2 rfl rfl 0 (by decide) (hts (.fieldLink RX4 9 "MotionPost$Picture" "values" "[I") (by decide +kernel)) (fun _ h9 => h9) rfl dX4_copyFrom_1 ?_
  refine lv_iconst (v := nI (0)) hx hb dX4_copyFrom_4 (by decide) ?_
  refine lv_aload_n hx hb dX4_copyFrom_5 rfl (lv_at hl 0 rfl) ?_
  refine va_get (D := gD G) (cl := vwCl) (tys := tyl G) (ci := 3) (v := .ref q) (C := RX4) (T := TX4) (N := 1) hx hb hts (by decide +kernel) hown hC.K hP 0 rfl rfl 0 (by decide) (hts (.fieldLink RX4 9 "MotionPost$Picture" "values" "[I") (by decide +kernel)) (fun _ h9 => h9) rfl dX4_copyFrom_6 ?_
  refine lv_iconst (v := nI (0)) hx hb dX4_copyFrom_9 (by decide) ?_
  refine lv_bipush (v := nI (64)) hx hb dX4_copyFrom_10 (by decide) ?_
  refine gCopy (k := 64) (t0 := 0) hx hb (hml.trans hl.1.symm) hown (hts (.methodLink RX4 23 arraycopyName) (by decide +kernel)) (hts (.native arraycopyName) (by decide +kernel)) (hts (.static arraycopyName) (by decide +kernel)) (hts (.initialized "java/lang/System") (by decide +kernel)) hC.K hP hD hS 3 1 rfl rfl rfl (by decide) (by decide) (Nat.le_of_ble_eq_true rfl) (Nat.le_of_ble_eq_true rfl) dX4_copyFrom_12 (fun H locs hP hD hS => ?_)
  have hP : PP G ([(h, .inr (3, [.ref q])), (q, .inl (cI G, 64, .inl (fun z9 => iI (f2 z9)))), (h2, .inr (3, [.ref q2])), (q2, .inl (cI G, 64, .inl (fun z9 => iI (f2 z9))))]) H := hP
  have hD : va_D A ([(h, .inr (3, [.ref q])), (q, .inl (cI G, 64, .inl (fun z9 => iI (f2 z9)))), (h2, .inr (3, [.ref q2])), (q2, .inl (cI G, 64, .inl (fun z9 => iI (f2 z9))))]) := hD
  exact xMv (G := G) (post := (fun (u : Unit) => u = ())) (w1 := (fun (u : Unit) => [(h, .inr (3, [.ref q])), (q, .inl (cI G, 64, .inl (fun z9 => iI (f2 z9)))), (h2, .inr (3, [.ref q2])), (q2, .inl (cI G, 64, .inl (fun z9 => iI (f2 z9))))])) (()) hx hb hr hlocks hP hS (by exact rfl) dX4_copyFrom_15

set_option maxHeartbeats 4000000 in
set_option maxRecDepth 100000 in
theorem c_X4_putRectangle {l : Launch} {G : GT} {H0 : Heap} (h q : Nat) (f : Nat → Int) (p hh w : Nat) (v : Int) (hp : p < 64) (hhh : 1 ≤ hh ∧ hh ≤ 8) (hw : 1 ≤ w ∧ w ≤ 8) (hv : 0 ≤ v ∧ v ≤ 15) (hf : R15 f) (hP0 : PP G ([(h, .inr (3, [.ref q])), (q, .inl (cI G, 64, .inl (fun z9 => iI (f z9))))]) H0) (hB0 : va_D (lo G) ([(h, .inr (3, [.ref q])), (q, .inl (cI G, 64, .inl (fun z9 => iI (f z9))))])) : Met l yX4_putRectangle wsX4_putRectangle ({ frames := 1, cells := 0, slots := 0, locals := 23 } : Room) (pcG G [.ref h, .int (nI (p)), .int (nI (hh)), .int (nI (w)), .int (iI (v))] H0) (qMi G (fun (r : Int32) (u : Unit) => r = nI ((fillS f p hh w v).2)) (fun (u : Unit) => [(h, .inr (3, [.ref q])), (q, .inl (cI G, 64, .inl (fun z9 => iI (((fillS f p hh w v).1) z9))))]) ([(h, .inr (3, [.ref q])), (q, .inl (cI G, 64, .inl (fun z9 => iI (f z9))))]) H0) 0 0 (va_A ([(h, .inr (3, [.ref q])), (q, .inl (cI G, 64, .inl (fun z9 => iI (f z9))))]) H0.size) := by
  refine enter (cc := cX4_putRectangle) (maxL := 10) (ret := some .int) (own := RX4) (lv := [(0, .ref h), (1, .int (nI (p))), (2, .int (nI (hh))), (3, .int (nI (w))), (4, .int (iI (v)))]) (by decide) rfl rfl rfl (Nat.le_of_ble_eq_true rfl) ?_
  intro pg ev s m below meth c hx hb hr hts hown hlocks hml hnm hH hC ls hl
  subst hH
  have hLo := va_freeB hB0 hC.2.2.2.1
  have hD := hB0.self (sz := s.heap.size)
  have hS : va_S (va_A ([(h, .inr (3, [.ref q])), (q, .inl (cI G, 64, .inl (fun z9 => iI (f z9))))]) s.heap.size) s.heap s.heap [] := va_S.rf
  unfold qMi
  generalize hAe : va_A ([(h, .inr (3, [.ref q])), (q, .inl (cI G, 64, .inl (fun z9 => iI (f z9))))]) s.heap.size = A at hD hLo hS ⊢
  have hA : ∀ q, s.heap.size ≤ q → A q := fun q h => by rw [← hAe]; exact Or.inr h
  generalize ([] : List Loc) = locs at hS ⊢
  have hP := hP0
  refine lv_iload_n hx hb dX4_putRectangle_0 rfl (lv_at hl 1 rfl) ?_
  refine lv_bipush (v := nI (8)) hx hb dX4_putRectangle_1 (by decide) ?_
  refine gDiv (z := nI (p / 8)) hx hb dX4_putRectangle_3 (nI_ne0 (by omega) (by omega)) (pk_div (by omega) (by omega) (by omega)) ?_
  refine lv_istore (lv' := [(5, .int (nI (p / 8))), (0, .ref h), (1, .int (nI (p))), (2, .int (nI (hh))), (3, .int (nI (w))), (4, .int (iI (v)))]) hx hb dX4_putRectangle_4 hl (by decide) rfl (fun ls hl => ?_)
  refine lv_iload_n hx hb dX4_putRectangle_6 rfl (lv_at hl 2 rfl) ?_
  refine lv_bipush (v := nI (8)) hx hb dX4_putRectangle_7 (by decide) ?_
  refine gRem (z := nI (p % 8)) hx hb dX4_putRectangle_9 (nI_ne0 (by omega) (by omega)) (pk_rem (by omega) (by omega) (by omega)) ?_
  refine lv_istore (lv' := [(6, .int (nI (p % 8))), (5, .int (nI (p / 8))), (0, .ref h), (1, .int (nI (p))), (2, .int (nI (hh))), (3, .int (nI (w))), (4, .int (iI (v)))]) hx hb dX4_putRectangle_10 hl (by decide) rfl (fun ls hl => ?_)
  refine lv_iconst (v := nI (0)) hx hb dX4_putRectangle_12 (by decide) ?_
  refine lv_istore (lv' := [(7, .int (nI (0))), (6, .int (nI (p % 8))), (5, .int (nI (p / 8))), (0, .ref h), (1, .int (nI (p))), (2, .int (nI (hh))), (3, .int (nI (w))), (4, .int (iI (v)))]) hx hb dX4_putRectangle_13 hl (by decide) rfl (fun ls hl => ?_)
  refine lv_iload hx hb dX4_putRectangle_15 (lv_at hl 2 rfl) ?_
  refine lv_istore (lv' := [(8, .int (nI (p / 8))), (7, .int (nI (0))), (6, .int (nI (p % 8))), (5, .int (nI (p / 8))), (0, .ref h), (1, .int (nI (p))), (2, .int (nI (hh))), (3, .int (nI (w))), (4, .int (iI (v)))]) hx hb dX4_putRectangle_17 hl (by decide) rfl (fun ls hl => ?_)
  have L_19 : ∀ (n_19 : Nat) (i : Nat), 8 - i < n_19 → i ≤ hh → p / 8 + i ≤ 8 → ∀ (H : Heap) (locs : List Loc) (ls : Array Slot), PP G ([(h, .inr (3, [.ref q])), (q, .inl (cI G, 64, .inl (fun z9 => iI (((rrow v (p / 8) (p % 8) (min w (8 - p % 8)) (f, 0) i).1) z9))))]) H → va_D A ([(h, .inr (3, [.ref q])), (q, .inl (cI G, 64, .inl (fun z9 => iI (((rrow v (p / 8) (p % 8) (min w (8 - p % 8)) (f, 0) i).1) z9))))]) → va_S A s.heap H locs → lv_has ls 10 [(0, .ref h), (1, .int (nI (p))), (2, .int (nI (hh))), (3, .int (nI (w))), (4, .int (iI (v))), (5, .int (nI (p / 8))), (6, .int (nI (p % 8))), (7, .int (nI ((rrow v (p / 8) (p % 8) (min w (8 - p % 8)) (f, 0) i).2))), (8, .int (nI (p / 8 + i)))] → W pg l ev ({ frames := 1, cells := 0, slots := 0, locals := 23 } : Room) s m (([.ref h, .int (nI (p)), .int (nI (hh)), .int (nI (w)), .int (iI (v))] : List Value).toArray) below meth c H locs 0 0 (MQ below (va_Qi (fun (r : Int32) (u : Unit) => r = nI ((fillS f p hh w v).2)) (fun (u : Unit) t => PP G ([(h, .inr (3, [.ref q])), (q, .inl (cI G, 64, .inl (fun z9 => iI (((fillS f p hh w v).1) z9))))]) t.heap) A) (([.ref h, .int (nI (p)), .int (nI (hh)), .int (nI (w)), .int (iI (v))] : List Value).toArray) s 0 0 A) (F0 m 19 ls []) := by
    intro n_19
    induction n_19 with
    | zero => intro i hn; exact absurd hn (Nat.not_lt_zero _)
    | succ n_19 ih_19 =>
      intro i hn_19 hi hi2 H locs ls hP hD hS hl
      refine lv_iload hx hb dX4_putRectangle_19 (lv_at hl 8 rfl) ?_
      refine lv_iload hx hb dX4_putRectangle_21 (lv_at hl 5 rfl) ?_
      refine lv_iload_n hx hb dX4_putRectangle_23 rfl (lv_at hl 2 rfl) ?_
      refine gAdd (z := nI ((p / 8) + hh)) hx hb dX4_putRectangle_24 (nI_add _ _) ?_
      refine lv_icmp_ge (tgt := 96) hx hb dX4_putRectangle_25 (by decide) (fun c_1 => ?_) (fun c_1 => ?_)
      · have f_2 : (((p / 8) + hh : Nat) : Int) ≤ ((p / 8 + i : Nat) : Int) := (c_le (nI_toInt (n := (p / 8) + hh) (by omega)) (nI_toInt (n := p / 8 + i) (by omega))).mp c_1
        have ei : i = min hh (8 - p / 8) := min_at (by omega) (by omega) (by omega)
        subst ei
        refine lv_iload hx hb dX4_putRectangle_96 (lv_at hl 7 rfl) ?_
        exact xMi (G := G) (post := (fun (r : Int32) (u : Unit) => r = nI ((fillS f p hh w v).2))) (w1 := (fun (u : Unit) => [(h, .inr (3, [.ref q])), (q, .inl (cI G, 64, .inl (fun z9 => iI (((fillS f p hh w v).1) z9))))])) (()) hx hb hr hlocks hP hS (by exact rfl) (by exact rfl) dX4_putRectangle_98
      · have f_3 : ¬ (((p / 8) + hh : Nat) : Int) ≤ ((p / 8 + i : Nat) : Int) := fun z => c_1 ((c_le (nI_toInt (n := (p / 8) + hh) (by omega)) (nI_toInt (n := p / 8 + i) (by omega))).mpr z)
        refine lv_iload hx hb dX4_putRectangle_28 (lv_at hl 8 rfl) ?_
        refine lv_bipush (v := nI (8)) hx hb dX4_putRectangle_30 (by decide) ?_
        refine lv_icmp_ge (tgt := 96) hx hb dX4_putRectangle_32 (by decide) (fun c_4 => ?_) (fun c_4 => ?_)
        · have f_5 : (8 : Int) ≤ ((p / 8 + i : Nat) : Int) := (c_le (nI_toInt (n := 8) (by omega)) (nI_toInt (n := p / 8 + i) (by omega))).mp c_4
          have ei : i = min hh (8 - p / 8) := min_at (by omega) (by omega) (by omega)
          subst ei
          refine lv_iload hx hb dX4_putRectangle_96 (lv_at hl 7 rfl) ?_
          exact xMi (G := G) (post := (fun (r : Int32) (u : Unit) => r = nI ((fillS f p hh w v).2))) (w1 := (fun (u : Unit) => [(h, .inr (3, [.ref q])), (q, .inl (cI G, 64, .inl (fun z9 => iI (((fillS f p hh w v).1) z9))))])) (()) hx hb hr hlocks hP hS (by exact rfl) (by exact rfl) dX4_putRectangle_98
        · have f_6 : ¬ (8 : Int) ≤ ((p / 8 + i : Nat) : Int) := fun z => c_4 ((c_le (nI_toInt (n := 8) (by omega)) (nI_toInt (n := p / 8 + i) (by omega))).mpr z)
          refine lv_iload hx hb dX4_putRectangle_35 (lv_at hl 6 rfl) ?_
          refine lv_istore (lv' := [(9, .int (nI (p % 8))), (0, .ref h), (1, .int (nI (p))), (2, .int (nI (hh))), (3, .int (nI (w))), (4, .int (iI (v))), (5, .int (nI (p / 8))), (6, .int (nI (p % 8))), (7, .int (nI ((rrow v (p / 8) (p % 8) (min w (8 - p % 8)) (f, 0) i).2))), (8, .int (nI (p / 8 + i)))]) hx hb dX4_putRectangle_37 hl (by decide) rfl (fun ls hl => ?_)
          have L_39 : ∀ (n_39 : Nat) (j : Nat), 8 - j < n_39 → j ≤ w → p % 8 + j ≤ 8 → ∀ (H : Heap) (locs : List Loc) (ls : Array Slot), PP G ([(h, .inr (3, [.ref q])), (q, .inl (cI G, 64, .inl (fun z9 => iI (((rcol v (p / 8 + i) (p % 8) (rrow v (p / 8) (p % 8) (min w (8 - p % 8)) (f, 0) i) j).1) z9))))]) H → va_D A ([(h, .inr (3, [.ref q])), (q, .inl (cI G, 64, .inl (fun z9 => iI (((rcol v (p / 8 + i) (p % 8) (rrow v (p / 8) (p % 8) (min w (8 - p % 8)) (f, 0) i) j).1) z9))))]) → va_S A s.heap H locs → lv_has ls 10 [(0, .ref h), (1, .int (nI (p))), (2, .int (nI (hh))), (3, .int (nI (w))), (4, .int (iI (v))), (5, .int (nI (p / 8))), (6, .int (nI (p % 8))), (7, .int (nI ((rcol v (p / 8 + i) (p % 8) (rrow v (p / 8) (p % 8) (min w (8 - p % 8)) (f, 0) i) j).2))), (8, .int (nI (p / 8 + i))), (9, .int (nI (p % 8 + j)))] → W pg l ev ({ frames := 1, cells := 0, slots := 0, locals := 23 } : Room) s m (([.ref h, .int (nI (p)), .int (nI (hh)), .int (nI (w)), .int (iI (v))] : List Value).toArray) below meth c H locs 0 0 (MQ below (va_Qi (fun (r : Int32) (u : Unit) => r = nI ((fillS f p hh w v).2)) (fun (u : Unit) t => PP G ([(h, .inr (3, [.ref q])), (q, .inl (cI G, 64, .inl (fun z9 => iI (((fillS f p hh w v).1) z9))))]) t.heap) A) (([.ref h, .int (nI (p)), .int (nI (hh)), .int (nI (w)), .int (iI (v))] : List Value).toArray) s 0 0 A) (F0 m 39 ls []) := by
            intro n_39
            induction n_39 with
            | zero => intro j hn; exact absurd hn (Nat.not_lt_zero _)
            | succ n_39 ih_39 =>
              intro j hn_39 hj hj2 H locs ls hP hD hS hl
              refine lv_iload hx hb dX4_putRectangle_39 (lv_at hl 9 rfl) ?_
              refine lv_iload hx hb dX4_putRectangle_41 (lv_at hl 6 rfl) ?_
              refine lv_iload_n hx hb dX4_putRectangle_43 rfl (lv_at hl 3 rfl) ?_
              refine gAdd (z := nI ((p % 8) + w)) hx hb dX4_putRectangle_44 (nI_add _ _) ?_
              refine lv_icmp_ge (tgt := 90) hx hb dX4_putRectangle_45 (by decide) (fun c_7 => ?_) (fun c_7 => ?_)
              · have f_8 : (((p % 8) + w : Nat) : Int) ≤ ((p % 8 + j : Nat) : Int) := (c_le (nI_toInt (n := (p % 8) + w) (by omega)) (nI_toInt (n := p % 8 + j) (by omega))).mp c_7
                refine lv_iinc (v := nI ((p / 8 + i) + 1)) (lv' := [(8, .int (nI ((p / 8 + i) + 1))), (0, .ref h), (1, .int (nI (p))), (2, .int (nI (hh))), (3, .int (nI (w))), (4, .int (iI (v))), (5, .int (nI (p / 8))), (6, .int (nI (p % 8))), (7, .int (nI ((rcol v (p / 8 + i) (p % 8) (rrow v (p / 8) (p % 8) (min w (8 - p % 8)) (f, 0) i) j).2))), (9, .int (nI (p % 8 + j)))]) hx hb dX4_putRectangle_90 hl (k := 8) rfl (inc_p (p / 8 + i) 1) (by decide) rfl (fun ls hl => ?_)
                refine lv_goto (tgt := 19) hx hb dX4_putRectangle_93 (by decide) ?_
                have ej : j = min w (8 - p % 8) := min_at (by omega) (by omega) (by omega)
                subst ej
                exact ih_19 (i + 1) (by omega) (by omega) (by omega) H locs ls hP hD hS (lv_sub hl [1, 2, 3, 4, 5, 6, 7, 8, 0] ((lvc rfl (lvc rfl (lvc rfl (lvc rfl (lvc rfl (lvc rfl (lvc rfl (lvc (congrArg Value.int (rfl)) (lvc rfl rfl)))))))))))
              · have f_9 : ¬ (((p % 8) + w : Nat) : Int) ≤ ((p % 8 + j : Nat) : Int) := fun z => c_7 ((c_le (nI_toInt (n := (p % 8) + w) (by omega)) (nI_toInt (n := p % 8 + j) (by omega))).mpr z)
                refine lv_iload hx hb dX4_putRectangle_48 (lv_at hl 9 rfl) ?_
                refine lv_bipush (v := nI (8)) hx hb dX4_putRectangle_50 (by decide) ?_
                refine lv_icmp_ge (tgt := 90) hx hb dX4_putRectangle_52 (by decide) (fun c_10 => ?_) (fun c_10 => ?_)
                · have f_11 : (8 : Int) ≤ ((p % 8 + j : Nat) : Int) := (c_le (nI_toInt (n := 8) (by omega)) (nI_toInt (n := p % 8 + j) (by omega))).mp c_10
                  refine lv_iinc (v := nI ((p / 8 + i) + 1)) (lv' := [(8, .int (nI ((p / 8 + i) + 1))), (0, .ref h), (1, .int (nI (p))), (2, .int (nI (hh))), (3, .int (nI (w))), (4, .int (iI (v))), (5, .int (nI (p / 8))), (6, .int (nI (p % 8))), (7, .int (nI ((rcol v (p / 8 + i) (p % 8) (rrow v (p / 8) (p % 8) (min w (8 - p % 8)) (f, 0) i) j).2))), (9, .int (nI (p % 8 + j)))]) hx hb dX4_putRectangle_90 hl (k := 8) rfl (inc_p (p / 8 + i) 1) (by decide) rfl (fun ls hl => ?_)
                  refine lv_goto (tgt := 19) hx hb dX4_putRectangle_93 (by decide) ?_
                  have ej : j = min w (8 - p % 8) := min_at (by omega) (by omega) (by omega)
                  subst ej
                  exact ih_19 (i + 1) (by omega) (by omega) (by omega) H locs ls hP hD hS (lv_sub hl [1, 2, 3, 4, 5, 6, 7, 8, 0] ((lvc rfl (lvc rfl (lvc rfl (lvc rfl (lvc rfl (lvc rfl (lvc rfl (lvc (congrArg Value.int (rfl)) (lvc rfl rfl)))))))))))
                · have f_12 : ¬ (8 : Int) ≤ ((p % 8 + j : Nat) : Int) := fun z => c_10 ((c_le (nI_toInt (n := 8) (by omega)) (nI_toInt (n := p % 8 + j) (by omega))).mpr z)
                  refine lv_iload hx hb dX4_putRectangle_55 (lv_at hl 7 rfl) ?_
                  refine lv_aload_n hx hb dX4_putRectangle_57 rfl (lv_at hl 0 rfl) ?_
                  refine lv_bipush (v := nI (8)) hx hb dX4_putRectangle_58 (by decide) ?_
                  refine lv_iload hx hb dX4_putRectangle_60 (lv_at hl 8 rfl) ?_
                  refine gMul (z := nI (8 * (p / 8 + i))) hx hb dX4_putRectangle_62 (pk_mul _ _) ?_
                  refine lv_iload hx hb dX4_putRectangle_63 (lv_at hl 9 rfl) ?_
                  refine gAdd (z := nI ((8 * (p / 8 + i)) + (p % 8 + j))) hx hb dX4_putRectangle_65 (nI_add _ _) ?_
                  refine lv_iload hx hb dX4_putRectangle_66 (lv_at hl 4 rfl) ?_
                  have hR := rcol_R (v := v) (r := p / 8 + i) (c0 := p % 8) (rrow_R (x := (f, 0)) (v := v) (r0 := p / 8) (c0 := p % 8) (w := min w (8 - p % 8)) hf hv i) hv j (8 * (p / 8 + i) + (p % 8 + j))
                  refine kMi (va_runV (As := [.int (nI ((8 * (p / 8 + i)) + (p % 8 + j))), .int (iI (v))]) (rest := [.int (nI ((rcol v (p / 8 + i) (p % 8) (rrow v (p / 8) (p % 8) (min w (8 - p % 8)) (f, 0) i) j).2))]) ⟨hx, hb, hml, hown, hts⟩ (c_X4_put h q ((rcol v (p / 8 + i) (p % 8) (rrow v (p / 8) (p % 8) (min w (8 - p % 8)) (f, 0) i) j).1) ((8 * (p / 8 + i)) + (p % 8 + j)) v (by first | assumption | omega) (hP.sub [0, 1] rfl) ((hD.sub [0, 1] (by decide) rfl).weaken (fun _ _ _ h => hLo _ h))) (cwV 2 hts gX4_putRectangle_X4_put rfl rfl rfl (by decide +kernel) ⟨Nat.le_of_ble_eq_true rfl, Nat.le_of_ble_eq_true rfl⟩) (preV hC hS hLo hP (ci := 3) (q0 := 0) rfl rfl) rfl rfl hl.1 rfl (lv_room (Nat.le_of_ble_eq_true rfl)) dX4_putRectangle_68 ⟨Nat.zero_le _, Nat.zero_le _⟩) hP hD hS hA [0, 1] (by decide) rfl (fun _ => rfl) (fun r_15 u_13 H locs q_14 hP hD hS => ?_)
                  have hP : PP G ([(h, .inr (3, [.ref q])), (q, .inl (cI G, 64, .inl (fun z9 => iI ((va_up ((rcol v (p / 8 + i) (p % 8) (rrow v (p / 8) (p % 8) (min w (8 - p % 8)) (f, 0) i) j).1) ((8 * (p / 8 + i)) + (p % 8 + j)) v) z9))))]) H := hP
                  have hD : va_D A ([(h, .inr (3, [.ref q])), (q, .inl (cI G, 64, .inl (fun z9 => iI ((va_up ((rcol v (p / 8 + i) (p % 8) (rrow v (p / 8) (p % 8) (min w (8 - p % 8)) (f, 0) i) j).1) ((8 * (p / 8 + i)) + (p % 8 + j)) v) z9))))]) := hD
                  refine topE (v' := iI (((rcol v (p / 8 + i) (p % 8) (rrow v (p / 8) (p % 8) (min w (8 - p % 8)) (f, 0) i) j).1) ((8 * (p / 8 + i)) + (p % 8 + j)))) (q_14) ?_
                  refine lv_iload hx hb dX4_putRectangle_71 (lv_at hl 4 rfl) ?_
                  refine lv_icmp_ne (tgt := 80) hx hb dX4_putRectangle_73 (by decide) (fun c_16 => ?_) (fun c_16 => ?_)
                  · have f_17 : ¬ (((rcol v (p / 8 + i) (p % 8) (rrow v (p / 8) (p % 8) (min w (8 - p % 8)) (f, 0) i) j).1) ((8 * (p / 8 + i)) + (p % 8 + j))) = (v) := fun z => c_16 ((c_eq (iI_toInt (by omega) (by omega)) (iI_toInt (by omega) (by omega))).mpr z)
                    refine lv_iconst (v := nI (1)) hx hb dX4_putRectangle_80 (by decide) ?_
                    refine gAdd (z := nI (((rcol v (p / 8 + i) (p % 8) (rrow v (p / 8) (p % 8) (min w (8 - p % 8)) (f, 0) i) j).2) + 1)) hx hb dX4_putRectangle_81 (nI_add _ _) ?_
                    refine lv_istore (lv' := [(7, .int (nI (((rcol v (p / 8 + i) (p % 8) (rrow v (p / 8) (p % 8) (min w (8 - p % 8)) (f, 0) i) j).2) + 1))), (0, .ref h), (1, .int (nI (p))), (2, .int (nI (hh))), (3, .int (nI (w))), (4, .int (iI (v))), (5, .int (nI (p / 8))), (6, .int (nI (p % 8))), (8, .int (nI (p / 8 + i))), (9, .int (nI (p % 8 + j)))]) hx hb dX4_putRectangle_82 hl (by decide) rfl (fun ls hl => ?_)
                    refine lv_iinc (v := nI ((p % 8 + j) + 1)) (lv' := [(9, .int (nI ((p % 8 + j) + 1))), (7, .int (nI (((rcol v (p / 8 + i) (p % 8) (rrow v (p / 8) (p % 8) (min w (8 - p % 8)) (f, 0) i) j).2) + 1))), (0, .ref h), (1, .int (nI (p))), (2, .int (nI (hh))), (3, .int (nI (w))), (4, .int (iI (v))), (5, .int (nI (p / 8))), (6, .int (nI (p % 8))), (8, .int (nI (p / 8 + i)))]) hx hb dX4_putRectangle_84 hl (k := 9) rfl (inc_p (p % 8 + j) 1) (by decide) rfl (fun ls hl => ?_)
                    refine lv_goto (tgt := 39) hx hb dX4_putRectangle_87 (by decide) ?_
                    exact ih_39 (j + 1) (by omega) (by omega) (by omega) H locs ls hP hD hS (lv_sub hl [2, 3, 4, 5, 6, 7, 8, 1, 9, 0] ((lvc rfl (lvc rfl (lvc rfl (lvc rfl (lvc rfl (lvc rfl (lvc rfl (lvc (congrArg Value.int (congrArg nI (rput_f (by assumption)))) (lvc rfl (lvc rfl rfl))))))))))))
                  · have f_18 : (((rcol v (p / 8 + i) (p % 8) (rrow v (p / 8) (p % 8) (min w (8 - p % 8)) (f, 0) i) j).1) ((8 * (p / 8 + i)) + (p % 8 + j))) = (v) := (c_eq (iI_toInt (by omega) (by omega)) (iI_toInt (by omega) (by omega))).mp c_16
                    refine lv_iconst (v := nI (0)) hx hb dX4_putRectangle_76 (by decide) ?_
                    refine lv_goto (tgt := 81) hx hb dX4_putRectangle_77 (by decide) ?_
                    refine gAdd (z := nI (((rcol v (p / 8 + i) (p % 8) (rrow v (p / 8) (p % 8) (min w (8 - p % 8)) (f, 0) i) j).2) + 0)) hx hb dX4_putRectangle_81 (nI_add _ _) ?_
                    refine lv_istore (lv' := [(7, .int (nI (((rcol v (p / 8 + i) (p % 8) (rrow v (p / 8) (p % 8) (min w (8 - p % 8)) (f, 0) i) j).2) + 0))), (0, .ref h), (1, .int (nI (p))), (2, .int (nI (hh))), (3, .int (nI (w))), (4, .int (iI (v))), (5, .int (nI (p / 8))), (6, .int (nI (p % 8))), (8, .int (nI (p / 8 + i))), (9, .int (nI (p % 8 + j)))]) hx hb dX4_putRectangle_82 hl (by decide) rfl (fun ls hl => ?_)
                    refine lv_iinc (v := nI ((p % 8 + j) + 1)) (lv' := [(9, .int (nI ((p % 8 + j) + 1))), (7, .int (nI (((rcol v (p / 8 + i) (p % 8) (rrow v (p / 8) (p % 8) (min w (8 - p % 8)) (f, 0) i) j).2) + 0))), (0, .ref h), (1, .int (nI (p))), (2, .int (nI (hh))), (3, .int (nI (w))), (4, .int (iI (v))), (5, .int (nI (p / 8))), (6, .int (nI (p % 8))), (8, .int (nI (p / 8 + i)))]) hx hb dX4_putRectangle_84 hl (k := 9) rfl (inc_p (p % 8 + j) 1) (by decide) rfl (fun ls hl => ?_)
                    refine lv_goto (tgt := 39) hx hb dX4_putRectangle_87 (by decide) ?_
                    exact ih_39 (j + 1) (by omega) (by omega) (by omega) H locs ls hP hD hS (lv_sub hl [2, 3, 4, 5, 6, 7, 8, 1, 9, 0] ((lvc rfl (lvc rfl (lvc rfl (lvc rfl (lvc rfl (lvc rfl (lvc rfl (lvc (congrArg Value.int (congrArg nI (rput_t (by assumption)))) (lvc rfl (lvc rfl rfl))))))))))))
          exact L_39 (8 + 1) 0 (Nat.lt_succ_self _) (by omega) (by omega) H locs ls hP hD hS (lv_sub hl [1, 2, 3, 4, 5, 6, 7, 8, 9, 0] (lvc rfl (lvc rfl (lvc rfl (lvc rfl (lvc rfl (lvc rfl (lvc rfl (lvc (congrArg Value.int (rfl)) (lvc rfl (lvc (congrArg Value.int (rfl)) rfl)))))))))))
  exact L_19 (8 + 1) 0 (Nat.lt_succ_self _) (by omega) (by omega) s.heap locs ls hP hD hS (lv_sub hl [4, 5, 6, 7, 8, 3, 2, 1, 0] (lvc rfl (lvc rfl (lvc rfl (lvc rfl (lvc rfl (lvc rfl (lvc rfl (lvc (congrArg Value.int (rfl)) (lvc (congrArg Value.int (rfl)) rfl))))))))))

set_option maxHeartbeats 4000000 in
set_option maxRecDepth 100000 in
theorem c_X4_takeMoved {l : Launch} {G : GT} {H0 : Heap} (h q : Nat) (f : Nat → Int) (h2 q2 : Nat) (g : Nat → Int) (dy dx : Int) (hdy : -2 ≤ dy ∧ dy ≤ 2) (hdx : -2 ≤ dx ∧ dx ≤ 2) (hf : R15 f) (hg : R15 g) (hP0 : PP G ([(h, .inr (3, [.ref q])), (q, .inl (cI G, 64, .inl (fun z9 => iI (f z9)))), (h2, .inr (3, [.ref q2])), (q2, .inl (cI G, 64, .inl (fun z9 => iI (g z9))))]) H0) (hB0 : va_D (lo G) ([(h, .inr (3, [.ref q])), (q, .inl (cI G, 64, .inl (fun z9 => iI (f z9)))), (h2, .inr (3, [.ref q2])), (q2, .inl (cI G, 64, .inl (fun z9 => iI (g z9))))])) : Met l yX4_takeMoved wsX4_takeMoved ({ frames := 1, cells := 0, slots := 0, locals := 25 } : Room) (pcG G [.ref h, .ref h2, .int (iI (dy)), .int (iI (dx))] H0) (qMi G (fun (r : Int32) (u : Unit) => r = nI ((tkm g dy dx f 64).2)) (fun (u : Unit) => [(h, .inr (3, [.ref q])), (q, .inl (cI G, 64, .inl (fun z9 => iI (((tkm g dy dx f 64).1) z9)))), (h2, .inr (3, [.ref q2])), (q2, .inl (cI G, 64, .inl (fun z9 => iI (g z9))))]) ([(h, .inr (3, [.ref q])), (q, .inl (cI G, 64, .inl (fun z9 => iI (f z9)))), (h2, .inr (3, [.ref q2])), (q2, .inl (cI G, 64, .inl (fun z9 => iI (g z9))))]) H0) 0 0 (va_A ([(h, .inr (3, [.ref q])), (q, .inl (cI G, 64, .inl (fun z9 => iI (f z9)))), (h2, .inr (3, [.ref q2])), (q2, .inl (cI G, 64, .inl (fun z9 => iI (g z9))))]) H0.size) := by
  refine enter (cc := cX4_takeMoved) (maxL := 7) (ret := some .int) (own := RX4) (lv := [(0, .ref h), (1, .ref h2), (2, .int (iI (dy))), (3, .int (iI (dx)))]) (by decide) rfl rfl rfl (Nat.le_of_ble_eq_true rfl) ?_
  intro pg ev s m below meth c hx hb hr hts hown hlocks hml hnm hH hC ls hl
  subst hH
  have hLo := va_freeB hB0 hC.2.2.2.1
  have hD := hB0.self (sz := s.heap.size)
  have hS : va_S (va_A ([(h, .inr (3, [.ref q])), (q, .inl (cI G, 64, .inl (fun z9 => iI (f z9)))), (h2, .inr (3, [.ref q2])), (q2, .inl (cI G, 64, .inl (fun z9 => iI (g z9))))]) s.heap.size) s.heap s.heap [] := va_S.rf
  unfold qMi
  generalize hAe : va_A ([(h, .inr (3, [.ref q])), (q, .inl (cI G, 64, .inl (fun z9 => iI (f z9)))), (h2, .inr (3, [.ref q2])), (q2, .inl (cI G, 64, .inl (fun z9 => iI (g z9))))]) s.heap.size = A at hD hLo hS ⊢
  have hA : ∀ q, s.heap.size ≤ q → A q := fun q h => by rw [← hAe]; exact Or.inr h
  generalize ([] : List Loc) = locs at hS ⊢
  have hP := hP0
  refine lv_iconst (v := nI (0)) hx hb dX4_takeMoved_0 (by decide) ?_
  refine lv_istore (lv' := [(4, .int (nI (0))), (0, .ref h), (1, .ref h2), (2, .int (iI (dy))), (3, .int (iI (dx)))]) hx hb dX4_takeMoved_1 hl (by decide) rfl (fun ls hl => ?_)
  refine lv_iconst (v := nI (0)) hx hb dX4_takeMoved_3 (by decide) ?_
  refine lv_istore (lv' := [(5, .int (nI (0))), (4, .int (nI (0))), (0, .ref h), (1, .ref h2), (2, .int (iI (dy))), (3, .int (iI (dx)))]) hx hb dX4_takeMoved_4 hl (by decide) rfl (fun ls hl => ?_)
  have L_6 : ∀ (n_6 : Nat) (i : Nat), 64 - i < n_6 → i ≤ 64 → ∀ (H : Heap) (locs : List Loc) (ls : Array Slot), PP G ([(h, .inr (3, [.ref q])), (q, .inl (cI G, 64, .inl (fun z9 => iI (((tkm g dy dx f i).1) z9)))), (h2, .inr (3, [.ref q2])), (q2, .inl (cI G, 64, .inl (fun z9 => iI (g z9))))]) H → va_D A ([(h, .inr (3, [.ref q])), (q, .inl (cI G, 64, .inl (fun z9 => iI (((tkm g dy dx f i).1) z9)))), (h2, .inr (3, [.ref q2])), (q2, .inl (cI G, 64, .inl (fun z9 => iI (g z9))))]) → va_S A s.heap H locs → lv_has ls 7 [(0, .ref h), (1, .ref h2), (2, .int (iI (dy))), (3, .int (iI (dx))), (4, .int (nI ((tkm g dy dx f i).2))), (5, .int (nI (i)))] → W pg l ev ({ frames := 1, cells := 0, slots := 0, locals := 25 } : Room) s m (([.ref h, .ref h2, .int (iI (dy)), .int (iI (dx))] : List Value).toArray) below meth c H locs 0 0 (MQ below (va_Qi (fun (r : Int32) (u : Unit) => r = nI ((tkm g dy dx f 64).2)) (fun (u : Unit) t => PP G ([(h, .inr (3, [.ref q])), (q, .inl (cI G, 64, .inl (fun z9 => iI (((tkm g dy dx f 64).1) z9)))), (h2, .inr (3, [.ref q2])), (q2, .inl (cI G, 64, .inl (fun z9 => iI (g z9))))]) t.heap) A) (([.ref h, .ref h2, .int (iI (dy)), .int (iI (dx))] : List Value).toArray) s 0 0 A) (F0 m 6 ls []) := by
    intro n_6
    induction n_6 with
    | zero => intro i hn; exact absurd hn (Nat.not_lt_zero _)
    | succ n_6 ih_6 =>
      intro i hn_6 hi H locs ls hP hD hS hl
      refine lv_iload hx hb dX4_takeMoved_6 (lv_at hl 5 rfl) ?_
      refine lv_bipush (v := nI (64)) hx hb dX4_takeMoved_8 (by decide) ?_
      refine lv_icmp_ge (tgt := 52) hx hb dX4_takeMoved_10 (by decide) (fun c_1 => ?_) (fun c_1 => ?_)
      · have f_2 : (64 : Int) ≤ ((i : Nat) : Int) := (c_le (nI_toInt (n := 64) (by omega)) (nI_toInt (n := i) (by omega))).mp c_1
        have ei : i = 64 := by omega
        subst ei
        refine lv_iload hx hb dX4_takeMoved_52 (lv_at hl 4 rfl) ?_
        exact xMi (G := G) (post := (fun (r : Int32) (u : Unit) => r = nI ((tkm g dy dx f 64).2))) (w1 := (fun (u : Unit) => [(h, .inr (3, [.ref q])), (q, .inl (cI G, 64, .inl (fun z9 => iI (((tkm g dy dx f 64).1) z9)))), (h2, .inr (3, [.ref q2])), (q2, .inl (cI G, 64, .inl (fun z9 => iI (g z9))))])) (()) hx hb hr hlocks hP hS (by exact rfl) (by exact rfl) dX4_takeMoved_54
      · have f_3 : ¬ (64 : Int) ≤ ((i : Nat) : Int) := fun z => c_1 ((c_le (nI_toInt (n := 64) (by omega)) (nI_toInt (n := i) (by omega))).mpr z)
        refine lv_aload_n hx hb dX4_takeMoved_13 rfl (lv_at hl 1 rfl) ?_
        refine lv_iload hx hb dX4_takeMoved_14 (lv_at hl 5 rfl) ?_
        refine lv_iload_n hx hb dX4_takeMoved_16 rfl (lv_at hl 2 rfl) ?_
        refine lv_iload_n hx hb dX4_takeMoved_17 rfl (lv_at hl 3 rfl) ?_
        refine kPi (va_runV (As := [.int (nI (i)), .int (iI (dy)), .int (iI (dx))]) (rest := []) ⟨hx, hb, hml, hown, hts⟩ (c_X4_movedValueAt h2 q2 g i dy dx (by first | assumption | omega) (by first | assumption | omega) (by first | assumption | omega) (hP.sub [2, 3] rfl)) (cwV 3 hts gX4_takeMoved_X4_movedValueAt rfl rfl rfl (by decide +kernel) ⟨Nat.le_of_ble_eq_true rfl, Nat.le_of_ble_eq_true rfl⟩) (preV hC hS hLo hP (ci := 3) (q0 := 2) rfl rfl) rfl rfl hl.1 rfl (lv_room (Nat.le_of_ble_eq_true rfl)) dX4_takeMoved_18 ⟨Nat.zero_le _, Nat.zero_le _⟩) hS (fun locs hS => ?_)
        refine lv_istore (lv' := [(6, .int (iI (g (fr i dy dx)))), (0, .ref h), (1, .ref h2), (2, .int (iI (dy))), (3, .int (iI (dx))), (4, .int (nI ((tkm g dy dx f i).2))), (5, .int (nI (i)))]) hx hb dX4_takeMoved_21 hl (by decide) rfl (fun ls hl => ?_)
        refine lv_iload hx hb dX4_takeMoved_23 (lv_at hl 5 rfl) ?_
        refine lv_aload_n hx hb dX4_takeMoved_25 rfl (lv_at hl 1 rfl) ?_
        refine lv_iload hx hb dX4_takeMoved_26 (lv_at hl 6 rfl) ?_
        refine lv_iload hx hb dX4_takeMoved_28 (lv_at hl 0 rfl) ?_
        have hR := tkm_R (dy := dy) (dx := dx) hg hf i i
        have hR2 := hg (fr i dy dx)
        have hle := tkm_le (g := g) (dy := dy) (dx := dx) (f := f) i
        refine kMi (va_runV (As := [.int (nI (i)), .int (iI (g (fr i dy dx)))]) (rest := [.int (nI ((tkm g dy dx f i).2))]) ⟨hx, hb, hml, hown, hts⟩ (c_X4_put h q ((tkm g dy dx f i).1) i (g (fr i dy dx)) (by first | assumption | omega) (hP.sub [0, 1] rfl) ((hD.sub [0, 1] (by decide) rfl).weaken (fun _ _ _ h => hLo _ h))) (cwV 2 hts gX4_takeMoved_X4_put rfl rfl rfl (by decide +kernel) ⟨Nat.le_of_ble_eq_true rfl, Nat.le_of_ble_eq_true rfl⟩) (preV hC hS hLo hP (ci := 3) (q0 := 0) rfl rfl) rfl rfl hl.1 rfl (lv_room (Nat.le_of_ble_eq_true rfl)) dX4_takeMoved_30 ⟨Nat.zero_le _, Nat.zero_le _⟩) hP hD hS hA [0, 1] (by decide) rfl (fun _ => rfl) (fun r_6 u_4 H locs q_5 hP hD hS => ?_)
        have hP : PP G ([(h, .inr (3, [.ref q])), (q, .inl (cI G, 64, .inl (fun z9 => iI ((va_up ((tkm g dy dx f i).1) i (g (fr i dy dx))) z9)))), (h2, .inr (3, [.ref q2])), (q2, .inl (cI G, 64, .inl (fun z9 => iI (g z9))))]) H := hP
        have hD : va_D A ([(h, .inr (3, [.ref q])), (q, .inl (cI G, 64, .inl (fun z9 => iI ((va_up ((tkm g dy dx f i).1) i (g (fr i dy dx))) z9)))), (h2, .inr (3, [.ref q2])), (q2, .inl (cI G, 64, .inl (fun z9 => iI (g z9))))]) := hD
        refine topE (v' := iI (((tkm g dy dx f i).1) i)) (q_5) ?_
        refine lv_iload hx hb dX4_takeMoved_33 (lv_at hl 0 rfl) ?_
        refine lv_icmp_ne (tgt := 42) hx hb dX4_takeMoved_35 (by decide) (fun c_7 => ?_) (fun c_7 => ?_)
        · have f_8 : ¬ (((tkm g dy dx f i).1) i) = (g (fr i dy dx)) := fun z => c_7 ((c_eq (iI_toInt (by omega) (by omega)) (iI_toInt (by omega) (by omega))).mpr z)
          refine lv_iconst (v := nI (1)) hx hb dX4_takeMoved_42 (by decide) ?_
          refine gAdd (z := nI (((tkm g dy dx f i).2) + 1)) hx hb dX4_takeMoved_43 (nI_add _ _) ?_
          refine lv_istore (lv' := [(4, .int (nI (((tkm g dy dx f i).2) + 1))), (6, .int (iI (g (fr i dy dx)))), (0, .ref h), (1, .ref h2), (2, .int (iI (dy))), (3, .int (iI (dx))), (5, .int (nI (i)))]) hx hb dX4_takeMoved_44 hl (by decide) rfl (fun ls hl => ?_)
          refine lv_iinc (v := nI (i + 1)) (lv' := [(5, .int (nI (i + 1))), (4, .int (nI (((tkm g dy dx f i).2) + 1))), (6, .int (iI (g (fr i dy dx)))), (0, .ref h), (1, .ref h2), (2, .int (iI (dy))), (3, .int (iI (dx)))]) hx hb dX4_takeMoved_46 hl (k := 6) rfl (inc_p i 1) (by decide) rfl (fun ls hl => ?_)
          refine lv_goto (tgt := 6) hx hb dX4_takeMoved_49 (by decide) ?_
          exact ih_6 (i + 1) (by omega) (by omega) H locs ls hP hD hS (lv_sub hl [3, 4, 5, 6, 1, 0] ((lvc rfl (lvc rfl (lvc rfl (lvc rfl (lvc (congrArg Value.int (congrArg nI (rput_f (by assumption)))) (lvc rfl rfl))))))))
        · have f_9 : (((tkm g dy dx f i).1) i) = (g (fr i dy dx)) := (c_eq (iI_toInt (by omega) (by omega)) (iI_toInt (by omega) (by omega))).mp c_7
          refine lv_iconst (v := nI (0)) hx hb dX4_takeMoved_38 (by decide) ?_
          refine lv_goto (tgt := 43) hx hb dX4_takeMoved_39 (by decide) ?_
          refine gAdd (z := nI (((tkm g dy dx f i).2) + 0)) hx hb dX4_takeMoved_43 (nI_add _ _) ?_
          refine lv_istore (lv' := [(4, .int (nI (((tkm g dy dx f i).2) + 0))), (6, .int (iI (g (fr i dy dx)))), (0, .ref h), (1, .ref h2), (2, .int (iI (dy))), (3, .int (iI (dx))), (5, .int (nI (i)))]) hx hb dX4_takeMoved_44 hl (by decide) rfl (fun ls hl => ?_)
          refine lv_iinc (v := nI (i + 1)) (lv' := [(5, .int (nI (i + 1))), (4, .int (nI (((tkm g dy dx f i).2) + 0))), (6, .int (iI (g (fr i dy dx)))), (0, .ref h), (1, .ref h2), (2, .int (iI (dy))), (3, .int (iI (dx)))]) hx hb dX4_takeMoved_46 hl (k := 6) rfl (inc_p i 1) (by decide) rfl (fun ls hl => ?_)
          refine lv_goto (tgt := 6) hx hb dX4_takeMoved_49 (by decide) ?_
          exact ih_6 (i + 1) (by omega) (by omega) H locs ls hP hD hS (lv_sub hl [3, 4, 5, 6, 1, 0] ((lvc rfl (lvc rfl (lvc rfl (lvc rfl (lvc (congrArg Value.int (congrArg nI (rput_t (by assumption)))) (lvc rfl rfl))))))))
  exact L_6 (64 + 1) 0 (Nat.lt_succ_self _) (by omega) s.heap locs ls hP hD hS (lv_sub hl [2, 3, 4, 5, 1, 0] (lvc rfl (lvc rfl (lvc rfl (lvc rfl (lvc (congrArg Value.int (rfl)) (lvc rfl rfl)))))))

set_option maxHeartbeats 4000000 in
set_option maxRecDepth 100000 in
theorem c_X7_isKeyDue {l : Launch} {G : GT} {H0 : Heap} (h a1 a2 a3 a4 a5 a6 a7 a8 : Nat) (d t r : Nat → Int) (k o : Nat → Nat) (bu kd pi lc sb : Nat) (hkd : 1 ≤ kd ∧ kd ≤ 20) (hpi : pi ≤ 999) (hP0 : PP G ([(h, .inr (6, [.ref a1, .ref a3, .ref a5, .ref a7, .ref a8, .int (nI (bu)), .int (nI (kd)), .int (nI (pi)), .int (nI (lc)), .int (nI (sb))])), (a1, .inr (3, [.ref a2])), (a2, .inl (cI G, 64, .inl (fun z9 => iI (d z9)))), (a3, .inr (3, [.ref a4])), (a4, .inl (cI G, 64, .inl (fun z9 => iI (t z9)))), (a5, .inr (3, [.ref a6])), (a6, .inl (cI G, 64, .inl (fun z9 => iI (r z9)))), (a7, .inl (cI G, 4, .inl (fun z9 => nI (k z9)))), (a8, .inl (cI G, 4, .inl (fun z9 => nI (o z9))))]) H0) : Met l yX7_isKeyDue wsX7_isKeyDue ({ frames := 0, cells := 0, slots := 0, locals := 0 } : Room) (pcG G [.ref h] H0) (qPi (bI (pi % kd = 0)) H0) 0 0 noF := by
  refine enter (cc := cX7_isKeyDue) (maxL := 1) (ret := some .boolean) (own := RX7) (lv := [(0, .ref h)]) (by decide) rfl rfl rfl (Nat.le_of_ble_eq_true rfl) ?_
  intro pg ev s m below meth c hx hb hr hts hown hlocks hml hnm hH hC ls hl
  subst hH
  have hLo : ∀ q, noF q → lo G q := fun _ h => h.elim
  have hS : va_S noF s.heap s.heap [] := va_S.rf
  generalize ([] : List Loc) = locs at hS ⊢
  have hP := hP0
  refine lv_aload_n hx hb dX7_isKeyDue_0 rfl (lv_at hl 0 rfl) ?_
  refine va_get (D := gD G) (cl := vwCl) (tys := tyl G) (ci := 6) (v := .int (nI (kd))) (C := RX7) (T := TX7) (N := 10) hx hb hts (by decide +kernel) hown hC.K hP 0 rfl rfl 6 (by decide) (hts (.fieldLink RX7 35 "MotionPost$State" "keyDistance" "I") (by decide +kernel)) (fun _ h9 => h9) rfl dX7_isKeyDue_1 ?_
  refine lv_if_le (tgt := 23) hx hb dX7_isKeyDue_4 (by decide) (fun c_1 => ?_) (fun c_1 => ?_)
  · have f_2 : ((kd : Nat) : Int) ≤ (0 : Int) := (c_le (nI_toInt (n := kd) (by omega)) rfl).mp c_1
    exfalso; omega
  · have f_3 : ¬ ((kd : Nat) : Int) ≤ (0 : Int) := fun z => c_1 ((c_le (nI_toInt (n := kd) (by omega)) rfl).mpr z)
    refine lv_aload_n hx hb dX7_isKeyDue_7 rfl (lv_at hl 0 rfl) ?_
    refine va_get (D := gD G) (cl := vwCl) (tys := tyl G) (ci := 6) (v := .int (nI (pi))) (C := RX7) (T := TX7) (N := 10) hx hb hts (by decide +kernel) hown hC.K hP 0 rfl rfl 7 (by decide) (hts (.fieldLink RX7 38 "MotionPost$State" "pictures" "I") (by decide +kernel)) (fun _ h9 => h9) rfl dX7_isKeyDue_8 ?_
    refine lv_aload_n hx hb dX7_isKeyDue_11 rfl (lv_at hl 0 rfl) ?_
    refine va_get (D := gD G) (cl := vwCl) (tys := tyl G) (ci := 6) (v := .int (nI (kd))) (C := RX7) (T := TX7) (N := 10) hx hb hts (by decide +kernel) hown hC.K hP 0 rfl rfl 6 (by decide) (hts (.fieldLink RX7 35 "MotionPost$State" "keyDistance" "I") (by decide +kernel)) (fun _ h9 => h9) rfl dX7_isKeyDue_12 ?_
    have hmod := Nat.mod_lt pi (show 0 < kd by omega)
    refine gRem (z := nI (pi % kd)) hx hb dX7_isKeyDue_15 (nI_ne0 (by omega) (by omega)) (pk_rem (by omega) (by omega) (by omega)) ?_
    refine lv_if_ne (tgt := 23) hx hb dX7_isKeyDue_16 (by decide) (fun c_4 => ?_) (fun c_4 => ?_)
    · have f_5 : ¬ ((pi % kd : Nat) : Int) = (0 : Int) := fun z => c_4 ((c_eq (nI_toInt (n := pi % kd) (by omega)) rfl).mpr z)
      refine lv_iconst (v := nI (0)) hx hb dX7_isKeyDue_23 (by decide) ?_
      exact xPi hx hb hr hlocks hS (by exact (by first | exact (bI_t (by omega)).symm | exact (bI_f (by omega)).symm)) (by exact rfl) dX7_isKeyDue_24
    · have f_6 : ((pi % kd : Nat) : Int) = (0 : Int) := (c_eq (nI_toInt (n := pi % kd) (by omega)) rfl).mp c_4
      refine lv_iconst (v := nI (1)) hx hb dX7_isKeyDue_19 (by decide) ?_
      refine lv_goto (tgt := 24) hx hb dX7_isKeyDue_20 (by decide) ?_
      exact xPi hx hb hr hlocks hS (by exact (by first | exact (bI_t (by omega)).symm | exact (bI_f (by omega)).symm)) (by exact rfl) dX7_isKeyDue_24

set_option maxHeartbeats 4000000 in
set_option maxRecDepth 100000 in
theorem c_X7_copyFrom {l : Launch} {G : GT} {H0 : Heap} (h a1 a2 a3 a4 a5 a6 a7 a8 : Nat) (d t r : Nat → Int) (k o : Nat → Nat) (bu kd pi lc sb : Nat) (g0 g1 g2 g3 g4 g5 g6 g7 g8 : Nat) (d2 t2 r2 : Nat → Int) (k2 o2 : Nat → Nat) (bu2 kd2 pi2 lc2 sb2 : Nat)  (hP0 : PP G ([(h, .inr (6, [.ref a1, .ref a3, .ref a5, .ref a7, .ref a8, .int (nI (bu)), .int (nI (kd)), .int (nI (pi)), .int (nI (lc)), .int (nI (sb))])), (a1, .inr (3, [.ref a2])), (a2, .inl (cI G, 64, .inl (fun z9 => iI (d z9)))), (a3, .inr (3, [.ref a4])), (a4, .inl (cI G, 64, .inl (fun z9 => iI (t z9)))), (a5, .inr (3, [.ref a6])), (a6, .inl (cI G, 64, .inl (fun z9 => iI (r z9)))), (a7, .inl (cI G, 4, .inl (fun z9 => nI (k z9)))), (a8, .inl (cI G, 4, .inl (fun z9 => nI (o z9)))), (g0, .inr (6, [.ref g1, .ref g3, .ref g5, .ref g7, .ref g8, .int (nI (bu2)), .int (nI (kd2)), .int (nI (pi2)), .int (nI (lc2)), .int (nI (sb2))])), (g1, .inr (3, [.ref g2])), (g2, .inl (cI G, 64, .inl (fun z9 => iI (d2 z9)))), (g3, .inr (3, [.ref g4])), (g4, .inl (cI G, 64, .inl (fun z9 => iI (t2 z9)))), (g5, .inr (3, [.ref g6])), (g6, .inl (cI G, 64, .inl (fun z9 => iI (r2 z9)))), (g7, .inl (cI G, 4, .inl (fun z9 => nI (k2 z9)))), (g8, .inl (cI G, 4, .inl (fun z9 => nI (o2 z9))))]) H0) (hB0 : va_D (lo G) ([(h, .inr (6, [.ref a1, .ref a3, .ref a5, .ref a7, .ref a8, .int (nI (bu)), .int (nI (kd)), .int (nI (pi)), .int (nI (lc)), .int (nI (sb))])), (a1, .inr (3, [.ref a2])), (a2, .inl (cI G, 64, .inl (fun z9 => iI (d z9)))), (a3, .inr (3, [.ref a4])), (a4, .inl (cI G, 64, .inl (fun z9 => iI (t z9)))), (a5, .inr (3, [.ref a6])), (a6, .inl (cI G, 64, .inl (fun z9 => iI (r z9)))), (a7, .inl (cI G, 4, .inl (fun z9 => nI (k z9)))), (a8, .inl (cI G, 4, .inl (fun z9 => nI (o z9)))), (g0, .inr (6, [.ref g1, .ref g3, .ref g5, .ref g7, .ref g8, .int (nI (bu2)), .int (nI (kd2)), .int (nI (pi2)), .int (nI (lc2)), .int (nI (sb2))])), (g1, .inr (3, [.ref g2])), (g2, .inl (cI G, 64, .inl (fun z9 => iI (d2 z9)))), (g3, .inr (3, [.ref g4])), (g4, .inl (cI G, 64, .inl (fun z9 => iI (t2 z9)))), (g5, .inr (3, [.ref g6])), (g6, .inl (cI G, 64, .inl (fun z9 => iI (r2 z9)))), (g7, .inl (cI G, 4, .inl (fun z9 => nI (k2 z9)))), (g8, .inl (cI G, 4, .inl (fun z9 => nI (o2 z9))))])) : Met l yX7_copyFrom wsX7_copyFrom ({ frames := 2, cells := 0, slots := 0, locals := 45 } : Room) (pcG G [.ref h, .ref g0] H0) (qMv G (fun (u : Unit) => u = ()) (fun (u : Unit) => [(h, .inr (6, [.ref a1, .ref a3, .ref a5, .ref a7, .ref a8, .int (nI (bu2)), .int (nI (kd2)), .int (nI (pi2)), .int (nI (lc2)), .int (nI (sb2))])), (a1, .inr (3, [.ref a2])), (a2, .inl (cI G, 64, .inl (fun z9 => iI (d2 z9)))), (a3, .inr (3, [.ref a4])), (a4, .inl (cI G, 64, .inl (fun z9 => iI (t2 z9)))), (a5, .inr (3, [.ref a6])), (a6, .inl (cI G, 64, .inl (fun z9 => iI (r2 z9)))), (a7, .inl (cI G, 4, .inl (fun z9 => nI (k2 z9)))), (a8, .inl (cI G, 4, .inl (fun z9 => nI (o2 z9)))), (g0, .inr (6, [.ref g1, .ref g3, .ref g5, .ref g7, .ref g8, .int (nI (bu2)), .int (nI (kd2)), .int (nI (pi2)), .int (nI (lc2)), .int (nI (sb2))])), (g1, .inr (3, [.ref g2])), (g2, .inl (cI G, 64, .inl (fun z9 => iI (d2 z9)))), (g3, .inr (3, [.ref g4])), (g4, .inl (cI G, 64, .inl (fun z9 => iI (t2 z9)))), (g5, .inr (3, [.ref g6])), (g6, .inl (cI G, 64, .inl (fun z9 => iI (r2 z9)))), (g7, .inl (cI G, 4, .inl (fun z9 => nI (k2 z9)))), (g8, .inl (cI G, 4, .inl (fun z9 => nI (o2 z9))))]) ([(h, .inr (6, [.ref a1, .ref a3, .ref a5, .ref a7, .ref a8, .int (nI (bu)), .int (nI (kd)), .int (nI (pi)), .int (nI (lc)), .int (nI (sb))])), (a1, .inr (3, [.ref a2])), (a2, .inl (cI G, 64, .inl (fun z9 => iI (d z9)))), (a3, .inr (3, [.ref a4])), (a4, .inl (cI G, 64, .inl (fun z9 => iI (t z9)))), (a5, .inr (3, [.ref a6])), (a6, .inl (cI G, 64, .inl (fun z9 => iI (r z9)))), (a7, .inl (cI G, 4, .inl (fun z9 => nI (k z9)))), (a8, .inl (cI G, 4, .inl (fun z9 => nI (o z9)))), (g0, .inr (6, [.ref g1, .ref g3, .ref g5, .ref g7, .ref g8, .int (nI (bu2)), .int (nI (kd2)), .int (nI (pi2)), .int (nI (lc2)), .int (nI (sb2))])), (g1, .inr (3, [.ref g2])), (g2, .inl (cI G, 64, .inl (fun z9 => iI (d2 z9)))), (g3, .inr (3, [.ref g4])), (g4, .inl (cI G, 64, .inl (fun z9 => iI (t2 z9)))), (g5, .inr (3, [.ref g6])), (g6, .inl (cI G, 64, .inl (fun z9 => iI (r2 z9)))), (g7, .inl (cI G, 4, .inl (fun z9 => nI (k2 z9)))), (g8, .inl (cI G, 4, .inl (fun z9 => nI (o2 z9))))]) H0) 0 0 (va_A ([(h, .inr (6, [.ref a1, .ref a3, .ref a5, .ref a7, .ref a8, .int (nI (bu)), .int (nI (kd)), .int (nI (pi)), .int (nI (lc)), .int (nI (sb))])), (a1, .inr (3, [.ref a2])), (a2, .inl (cI G, 64, .inl (fun z9 => iI (d z9)))), (a3, .inr (3, [.ref a4])), (a4, .inl (cI G, 64, .inl (fun z9 => iI (t z9)))), (a5, .inr (3, [.ref a6])), (a6, .inl (cI G, 64, .inl (fun z9 => iI (r z9)))), (a7, .inl (cI G, 4, .inl (fun z9 => nI (k z9)))), (a8, .inl (cI G, 4, .inl (fun z9 => nI (o z9)))), (g0, .inr (6, [.ref g1, .ref g3, .ref g5, .ref g7, .ref g8, .int (nI (bu2)), .int (nI (kd2)), .int (nI (pi2)), .int (nI (lc2)), .int (nI (sb2))])), (g1, .inr (3, [.ref g2])), (g2, .inl (cI G, 64, .inl (fun z9 => iI (d2 z9)))), (g3, .inr (3, [.ref g4])), (g4, .inl (cI G, 64, .inl (fun z9 => iI (t2 z9)))), (g5, .inr (3, [.ref g6])), (g6, .inl (cI G, 64, .inl (fun z9 => iI (r2 z9)))), (g7, .inl (cI G, 4, .inl (fun z9 => nI (k2 z9)))), (g8, .inl (cI G, 4, .inl (fun z9 => nI (o2 z9))))]) H0.size) := by
  refine enter (cc := cX7_copyFrom) (maxL := 2) (ret := none) (own := RX7) (lv := [(0, .ref h), (1, .ref g0)]) (by decide) rfl rfl rfl (Nat.le_of_ble_eq_true rfl) ?_
  intro pg ev s m below meth c hx hb hr hts hown hlocks hml hnm hH hC ls hl
  subst hH
  have hLo := va_freeB hB0 hC.2.2.2.1
  have hD := hB0.self (sz := s.heap.size)
  have hS : va_S (va_A ([(h, .inr (6, [.ref a1, .ref a3, .ref a5, .ref a7, .ref a8, .int (nI (bu)), .int (nI (kd)), .int (nI (pi)), .int (nI (lc)), .int (nI (sb))])), (a1, .inr (3, [.ref a2])), (a2, .inl (cI G, 64, .inl (fun z9 => iI (d z9)))), (a3, .inr (3, [.ref a4])), (a4, .inl (cI G, 64, .inl (fun z9 => iI (t z9)))), (a5, .inr (3, [.ref a6])), (a6, .inl (cI G, 64, .inl (fun z9 => iI (r z9)))), (a7, .inl (cI G, 4, .inl (fun z9 => nI (k z9)))), (a8, .inl (cI G, 4, .inl (fun z9 => nI (o z9)))), (g0, .inr (6, [.ref g1, .ref g3, .ref g5, .ref g7, .ref g8, .int (nI (bu2)), .int (nI (kd2)), .int (nI (pi2)), .int (nI (lc2)), .int (nI (sb2))])), (g1, .inr (3, [.ref g2])), (g2, .inl (cI G, 64, .inl (fun z9 => iI (d2 z9)))), (g3, .inr (3, [.ref g4])), (g4, .inl (cI G, 64, .inl (fun z9 => iI (t2 z9)))), (g5, .inr (3, [.ref g6])), (g6, .inl (cI G, 64, .inl (fun z9 => iI (r2 z9)))), (g7, .inl (cI G, 4, .inl (fun z9 => nI (k2 z9)))), (g8, .inl (cI G, 4, .inl (fun z9 => nI (o2 z9))))]) s.heap.size) s.heap s.heap [] := va_S.rf
  unfold qMv
  generalize hAe : va_A ([(h, .inr (6, [.ref a1, .ref a3, .ref a5, .ref a7, .ref a8, .int (nI (bu)), .int (nI (kd)), .int (nI (pi)), .int (nI (lc)), .int (nI (sb))])), (a1, .inr (3, [.ref a2])), (a2, .inl (cI G, 64, .inl (fun z9 => iI (d z9)))), (a3, .inr (3, [.ref a4])), (a4, .inl (cI G, 64, .inl (fun z9 => iI (t z9)))), (a5, .inr (3, [.ref a6])), (a6, .inl (cI G, 64, .inl (fun z9 => iI (r z9)))), (a7, .inl (cI G, 4, .inl (fun z9 => nI (k z9)))), (a8, .inl (cI G, 4, .inl (fun z9 => nI (o z9)))), (g0, .inr (6, [.ref g1, .ref g3, .ref g5, .ref g7, .ref g8, .int (nI (bu2)), .int (nI (kd2)), .int (nI (pi2)), .int (nI (lc2)), .int (nI (sb2))])), (g1, .inr (3, [.ref g2])), (g2, .inl (cI G, 64, .inl (fun z9 => iI (d2 z9)))), (g3, .inr (3, [.ref g4])), (g4, .inl (cI G, 64, .inl (fun z9 => iI (t2 z9)))), (g5, .inr (3, [.ref g6])), (g6, .inl (cI G, 64, .inl (fun z9 => iI (r2 z9)))), (g7, .inl (cI G, 4, .inl (fun z9 => nI (k2 z9)))), (g8, .inl (cI G, 4, .inl (fun z9 => nI (o2 z9))))]) s.heap.size = A at hD hLo hS ⊢
  have hA : ∀ q, s.heap.size ≤ q → A q := fun q h => by rw [← hAe]; exact Or.inr h
  generalize ([] : List Loc) = locs at hS ⊢
  have hP := hP0
  refine lv_aload_n hx hb dX7_copyFrom_0 rfl (lv_at hl 0 rfl) ?_
  refine va_get (D := gD G) (cl := vwCl) (tys := tyl G) (ci := 6) (v := .ref a1) (C := RX7) (T := TX7) (N := 10) hx hb hts (by decide +kernel) hown hC.K hP 0 rfl rfl 0 (by decide) (hts (.fieldLink RX7 12 "MotionPost$State" "drawn" "LMotionPost$Picture;") (by decide +kernel)) (fun _ h9 => h9) rfl dX7_copyFrom_1 ?_
  refine lv_aload_n hx hb dX7_copyFrom_4 rfl (lv_at hl 1 rfl) ?_
  refine va_get (D := gD G) (cl := vwCl) (tys := tyl G) (ci := 6) (v := .ref g1) (C := RX7) (T := TX7) (N := 10) hx hb hts (by decide +kernel) hown hC.K hP 9 rfl rfl 0 (by decide) (hts (.fieldLink RX7 12 "MotionPost$State" "drawn" "LMotionPost$Picture;") (by decide +kernel)) (fun _ h9 => h9) rfl dX7_copyFrom_5 ?_
  refine kMv (va_runVN (As := [.ref g1]) (rest := []) ⟨hx, hb, hml, hown, hts⟩ (c_X4_copyFrom a1 a2 d g1 g2 d2 (hP.sub [1, 2, 10, 11] rfl) ((hD.sub [1, 2, 10, 11] (by decide) rfl).weaken (fun _ _ _ h => hLo _ h))) ⟨va_cnB 1 hts gX7_copyFrom_X4_copyFrom_n47 rfl rfl rfl (hC.nest 52 rfl) (hts (.initialized RX4) (by decide +kernel)) (by decide +kernel) ⟨Nat.le_of_ble_eq_true rfl, Nat.le_of_ble_eq_true rfl⟩, (hts (.instanceMethod yX4_copyFrom) (by decide +kernel)), (hts (.selects RX4 yX4_copyFrom yX4_copyFrom) (by decide +kernel))⟩ (preV hC hS hLo hP (ci := 3) (q0 := 1) rfl rfl) rfl rfl hl.1 rfl (lv_room (Nat.le_of_ble_eq_true rfl)) dX7_copyFrom_8 ⟨Nat.zero_le _, Nat.zero_le _⟩) hP hD hS hA [1, 2, 10, 11] (by decide) rfl (fun _ => rfl) (fun u_1 H locs q_2 hP hD hS => ?_)
  have hP : PP G ([(h, .inr (6, [.ref a1, .ref a3, .ref a5, .ref a7, .ref a8, .int (nI (bu)), .int (nI (kd)), .int (nI (pi)), .int (nI (lc)), .int (nI (sb))])), (a1, .inr (3, [.ref a2])), (a2, .inl (cI G, 64, .inl (fun z9 => iI (d2 z9)))), (a3, .inr (3, [.ref a4])), (a4, .inl (cI G, 64, .inl (fun z9 => iI (t z9)))), (a5, .inr (3, [.ref a6])), (a6, .inl (cI G, 64, .inl (fun z9 => iI (r z9)))), (a7, .inl (cI G, 4, .inl (fun z9 => nI (k z9)))), (a8, .inl (cI G, 4, .inl (fun z9 => nI (o z9)))), (g0, .inr (6, [.ref g1, .ref g3, .ref g5, .ref g7, .ref g8, .int (nI (bu2)), .int (nI (kd2)), .int (nI (pi2)), .int (nI (lc2)), .int (nI (sb2))])), (g1, .inr (3, [.ref g2])), (g2, .inl (cI G, 64, .inl (fun z9 => iI (d2 z9)))), (g3, .inr (3, [.ref g4])), (g4, .inl (cI G, 64, .inl (fun z9 => iI (t2 z9)))), (g5, .inr (3, [.ref g6])), (g6, .inl (cI G, 64, .inl (fun z9 => iI (r2 z9)))), (g7, .inl (cI G, 4, .inl (fun z9 => nI (k2 z9)))), (g8, .inl (cI G, 4, .inl (fun z9 => nI (o2 z9))))]) H := hP
  have hD : va_D A ([(h, .inr (6, [.ref a1, .ref a3, .ref a5, .ref a7, .ref a8, .int (nI (bu)), .int (nI (kd)), .int (nI (pi)), .int (nI (lc)), .int (nI (sb))])), (a1, .inr (3, [.ref a2])), (a2, .inl (cI G, 64, .inl (fun z9 => iI (d2 z9)))), (a3, .inr (3, [.ref a4])), (a4, .inl (cI G, 64, .inl (fun z9 => iI (t z9)))), (a5, .inr (3, [.ref a6])), (a6, .inl (cI G, 64, .inl (fun z9 => iI (r z9)))), (a7, .inl (cI G, 4, .inl (fun z9 => nI (k z9)))), (a8, .inl (cI G, 4, .inl (fun z9 => nI (o z9)))), (g0, .inr (6, [.ref g1, .ref g3, .ref g5, .ref g7, .ref g8, .int (nI (bu2)), .int (nI (kd2)), .int (nI (pi2)), .int (nI (lc2)), .int (nI (sb2))])), (g1, .inr (3, [.ref g2])), (g2, .inl (cI G, 64, .inl (fun z9 => iI (d2 z9)))), (g3, .inr (3, [.ref g4])), (g4, .inl (cI G, 64, .inl (fun z9 => iI (t2 z9)))), (g5, .inr (3, [.ref g6])), (g6, .inl (cI G, 64, .inl (fun z9 => iI (r2 z9)))), (g7, .inl (cI G, 4, .inl (fun z9 => nI (k2 z9)))), (g8, .inl (cI G, 4, .inl (fun z9 => nI (o2 z9))))]) := hD
  refine lv_aload_n hx hb dX7_copyFrom_11 rfl (lv_at hl 0 rfl) ?_
  refine va_get (D := gD G) (cl := vwCl) (tys := tyl G) (ci := 6) (v := .ref a3) (C := RX7) (T := TX7) (N := 10) hx hb hts (by decide +kernel) hown hC.K hP 0 rfl rfl 1 (by decide) (hts (.fieldLink RX7 18 "MotionPost$State" "sent" "LMotionPost$Picture;") (by decide +kernel)) (fun _ h9 => h9) rfl dX7_copyFrom_12 ?_
  refine lv_aload_n hx hb dX7_copyFrom_15 rfl (lv_at hl 1 rfl) ?_
  refine va_get (D := gD G) (cl := vwCl) (tys := tyl G) (ci := 6) (v := .ref g3) (C := RX7) (T := TX7) (N := 10) hx hb hts (by decide +kernel) hown hC.K hP 9 rfl rfl 1 (by decide) (hts (.fieldLink RX7 18 "MotionPost$State" "sent" "LMotionPost$Picture;") (by decide +kernel)) (fun _ h9 => h9) rfl dX7_copyFrom_16 ?_
  refine kMv (va_runVN (As := [.ref g3]) (rest := []) ⟨hx, hb, hml, hown, hts⟩ (c_X4_copyFrom a3 a4 t g3 g4 t2 (hP.sub [3, 4, 12, 13] rfl) ((hD.sub [3, 4, 12, 13] (by decide) rfl).weaken (fun _ _ _ h => hLo _ h))) ⟨va_cnB 1 hts gX7_copyFrom_X4_copyFrom_n47 rfl rfl rfl (hC.nest 52 rfl) (hts (.initialized RX4) (by decide +kernel)) (by decide +kernel) ⟨Nat.le_of_ble_eq_true rfl, Nat.le_of_ble_eq_true rfl⟩, (hts (.instanceMethod yX4_copyFrom) (by decide +kernel)), (hts (.selects RX4 yX4_copyFrom yX4_copyFrom) (by decide +kernel))⟩ (preV hC hS hLo hP (ci := 3) (q0 := 3) rfl rfl) rfl rfl hl.1 rfl (lv_room (Nat.le_of_ble_eq_true rfl)) dX7_copyFrom_19 ⟨Nat.zero_le _, Nat.zero_le _⟩) hP hD hS hA [3, 4, 12, 13] (by decide) rfl (fun _ => rfl) (fun u_4 H locs q_5 hP hD hS => ?_)
  have hP : PP G ([(h, .inr (6, [.ref a1, .ref a3, .ref a5, .ref a7, .ref a8, .int (nI (bu)), .int (nI (kd)), .int (nI (pi)), .int (nI (lc)), .int (nI (sb))])), (a1, .inr (3, [.ref a2])), (a2, .inl (cI G, 64, .inl (fun z9 => iI (d2 z9)))), (a3, .inr (3, [.ref a4])), (a4, .inl (cI G, 64, .inl (fun z9 => iI (t2 z9)))), (a5, .inr (3, [.ref a6])), (a6, .inl (cI G, 64, .inl (fun z9 => iI (r z9)))), (a7, .inl (cI G, 4, .inl (fun z9 => nI (k z9)))), (a8, .inl (cI G, 4, .inl (fun z9 => nI (o z9)))), (g0, .inr (6, [.ref g1, .ref g3, .ref g5, .ref g7, .ref g8, .int (nI (bu2)), .int (nI (kd2)), .int (nI (pi2)), .int (nI (lc2)), .int (nI (sb2))])), (g1, .inr (3, [.ref g2])), (g2, .inl (cI G, 64, .inl (fun z9 => iI (d2 z9)))), (g3, .inr (3, [.ref g4])), (g4, .inl (cI G, 64, .inl (fun z9 => iI (t2 z9)))), (g5, .inr (3, [.ref g6])), (g6, .inl (cI G, 64, .inl (fun z9 => iI (r2 z9)))), (g7, .inl (cI G, 4, .inl (fun z9 => nI (k2 z9)))), (g8, .inl (cI G, 4, .inl (fun z9 => nI (o2 z9))))]) H := hP
  have hD : va_D A ([(h, .inr (6, [.ref a1, .ref a3, .ref a5, .ref a7, .ref a8, .int (nI (bu)), .int (nI (kd)), .int (nI (pi)), .int (nI (lc)), .int (nI (sb))])), (a1, .inr (3, [.ref a2])), (a2, .inl (cI G, 64, .inl (fun z9 => iI (d2 z9)))), (a3, .inr (3, [.ref a4])), (a4, .inl (cI G, 64, .inl (fun z9 => iI (t2 z9)))), (a5, .inr (3, [.ref a6])), (a6, .inl (cI G, 64, .inl (fun z9 => iI (r z9)))), (a7, .inl (cI G, 4, .inl (fun z9 => nI (k z9)))), (a8, .inl (cI G, 4, .inl (fun z9 => nI (o z9)))), (g0, .inr (6, [.ref g1, .ref g3, .ref g5, .ref g7, .ref g8, .int (nI (bu2)), .int (nI (kd2)), .int (nI (pi2)), .int (nI (lc2)), .int (nI (sb2))])), (g1, .inr (3, [.ref g2])), (g2, .inl (cI G, 64, .inl (fun z9 => iI (d2 z9)))), (g3, .inr (3, [.ref g4])), (g4, .inl (cI G, 64, .inl (fun z9 => iI (t2 z9)))), (g5, .inr (3, [.ref g6])), (g6, .inl (cI G, 64, .inl (fun z9 => iI (r2 z9)))), (g7, .inl (cI G, 4, .inl (fun z9 => nI (k2 z9)))), (g8, .inl (cI G, 4, .inl (fun z9 => nI (o2 z9))))]) := hD
  refine lv_aload_n hx hb dX7_copyFrom_22 rfl (lv_at hl 0 rfl) ?_
  refine va_get (D := gD G) (cl := vwCl) (tys := tyl G) (ci := 6) (v := .ref a5) (C := RX7) (T := TX7) (N := 10) hx hb hts (by decide +kernel) hown hC.K hP 0 rfl rfl 2 (by decide) (hts (.fieldLink RX7 21 "MotionPost$State" "received" "LMotionPost$Picture;") (by decide +kernel)) (fun _ h9 => h9) rfl dX7_copyFrom_23 ?_
  refine lv_aload_n hx hb dX7_copyFrom_26 rfl (lv_at hl 1 rfl) ?_
  refine va_get (D := gD G) (cl := vwCl) (tys := tyl G) (ci := 6) (v := .ref g5) (C := RX7) (T := TX7) (N := 10) hx hb hts (by decide +kernel) hown hC.K hP 9 rfl rfl 2 (by decide) (hts (.fieldLink RX7 21 "MotionPost$State" "received" "LMotionPost$Picture;") (by decide +kernel)) (fun _ h9 => h9) rfl dX7_copyFrom_27 ?_
  refine kMv (va_runVN (As := [.ref g5]) (rest := []) ⟨hx, hb, hml, hown, hts⟩ (c_X4_copyFrom a5 a6 r g5 g6 r2 (hP.sub [5, 6, 14, 15] rfl) ((hD.sub [5, 6, 14, 15] (by decide) rfl).weaken (fun _ _ _ h => hLo _ h))) ⟨va_cnB 1 hts gX7_copyFrom_X4_copyFrom_n47 rfl rfl rfl (hC.nest 52 rfl) (hts (.initialized RX4) (by decide +kernel)) (by decide +kernel) ⟨Nat.le_of_ble_eq_true rfl, Nat.le_of_ble_eq_true rfl⟩, (hts (.instanceMethod yX4_copyFrom) (by decide +kernel)), (hts (.selects RX4 yX4_copyFrom yX4_copyFrom) (by decide +kernel))⟩ (preV hC hS hLo hP (ci := 3) (q0 := 5) rfl rfl) rfl rfl hl.1 rfl (lv_room (Nat.le_of_ble_eq_true rfl)) dX7_copyFrom_30 ⟨Nat.zero_le _, Nat.zero_le _⟩) hP hD hS hA [5, 6, 14, 15] (by decide) rfl (fun _ => rfl) (fun u_7 H locs q_8 hP hD hS => ?_)
  have hP : PP G ([(h, .inr (6, [.ref a1, .ref a3, .ref a5, .ref a7, .ref a8, .int (nI (bu)), .int (nI (kd)), .int (nI (pi)), .int (nI (lc)), .int (nI (sb))])), (a1, .inr (3, [.ref a2])), (a2, .inl (cI G, 64, .inl (fun z9 => iI (d2 z9)))), (a3, .inr (3, [.ref a4])), (a4, .inl (cI G, 64, .inl (fun z9 => iI (t2 z9)))), (a5, .inr (3, [.ref a6])), (a6, .inl (cI G, 64, .inl (fun z9 => iI (r2 z9)))), (a7, .inl (cI G, 4, .inl (fun z9 => nI (k z9)))), (a8, .inl (cI G, 4, .inl (fun z9 => nI (o z9)))), (g0, .inr (6, [.ref g1, .ref g3, .ref g5, .ref g7, .ref g8, .int (nI (bu2)), .int (nI (kd2)), .int (nI (pi2)), .int (nI (lc2)), .int (nI (sb2))])), (g1, .inr (3, [.ref g2])), (g2, .inl (cI G, 64, .inl (fun z9 => iI (d2 z9)))), (g3, .inr (3, [.ref g4])), (g4, .inl (cI G, 64, .inl (fun z9 => iI (t2 z9)))), (g5, .inr (3, [.ref g6])), (g6, .inl (cI G, 64, .inl (fun z9 => iI (r2 z9)))), (g7, .inl (cI G, 4, .inl (fun z9 => nI (k2 z9)))), (g8, .inl (cI G, 4, .inl (fun z9 => nI (o2 z9))))]) H := hP
  have hD : va_D A ([(h, .inr (6, [.ref a1, .ref a3, .ref a5, .ref a7, .ref a8, .int (nI (bu)), .int (nI (kd)), .int (nI (pi)), .int (nI (lc)), .int (nI (sb))])), (a1, .inr (3, [.ref a2])), (a2, .inl (cI G, 64, .inl (fun z9 => iI (d2 z9)))), (a3, .inr (3, [.ref a4])), (a4, .inl (cI G, 64, .inl (fun z9 => iI (t2 z9)))), (a5, .inr (3, [.ref a6])), (a6, .inl (cI G, 64, .inl (fun z9 => iI (r2 z9)))), (a7, .inl (cI G, 4, .inl (fun z9 => nI (k z9)))), (a8, .inl (cI G, 4, .inl (fun z9 => nI (o z9)))), (g0, .inr (6, [.ref g1, .ref g3, .ref g5, .ref g7, .ref g8, .int (nI (bu2)), .int (nI (kd2)), .int (nI (pi2)), .int (nI (lc2)), .int (nI (sb2))])), (g1, .inr (3, [.ref g2])), (g2, .inl (cI G, 64, .inl (fun z9 => iI (d2 z9)))), (g3, .inr (3, [.ref g4])), (g4, .inl (cI G, 64, .inl (fun z9 => iI (t2 z9)))), (g5, .inr (3, [.ref g6])), (g6, .inl (cI G, 64, .inl (fun z9 => iI (r2 z9)))), (g7, .inl (cI G, 4, .inl (fun z9 => nI (k2 z9)))), (g8, .inl (cI G, 4, .inl (fun z9 => nI (o2 z9))))]) := hD
  refine lv_aload_n hx hb dX7_copyFrom_33 rfl (lv_at hl 1 rfl) ?_
  refine va_get (D := gD G) (cl := vwCl) (tys := tyl G) (ci := 6) (v := .ref g7) (C := RX7) (T := TX7) (N := 10) hx hb hts (by decide +kernel) hown hC.K hP 9 rfl rfl 3 (by decide) (hts (.fieldLink RX7 24 "MotionPost$State" "kinds" "[I") (by decide +kernel)) (fun _ h9 => h9) rfl dX7_copyFrom_34 ?_
  refine lv_iconst (v := nI (0)) hx hb dX7_copyFrom_37 (by decide) ?_
  refine lv_aload_n hx hb dX7_copyFrom_38 rfl (lv_at hl 0 rfl) ?_
  refine va_get (D := gD G) (cl := vwCl) (tys := tyl G) (ci := 6) (v := .ref a7) (C := RX7) (T := TX7) (N := 10) hx hb hts (by decide +kernel) hown hC.K hP 0 rfl rfl 3 (by decide) (hts (.fieldLink RX7 24 "MotionPost$State" "kinds" "[I") (by decide +kernel)) (fun _ h9 => h9) rfl dX7_copyFrom_39 ?_
  refine lv_iconst (v := nI (0)) hx hb dX7_copyFrom_42 (by decide) ?_
  refine lv_iconst (v := nI (4)) hx hb dX7_copyFrom_43 (by decide) ?_
  refine gCopy (k := 4) (t0 := 0) hx hb (hml.trans hl.1.symm) hown (hts (.methodLink RX7 51 arraycopyName) (by decide +kernel)) (hts (.native arraycopyName) (by decide +kernel)) (hts (.static arraycopyName) (by decide +kernel)) (hts (.initialized "java/lang/System") (by decide +kernel)) hC.K hP hD hS 16 7 rfl rfl rfl (by decide) (by decide) (Nat.le_of_ble_eq_true rfl) (Nat.le_of_ble_eq_true rfl) dX7_copyFrom_44 (fun H locs hP hD hS => ?_)
  have hP : PP G ([(h, .inr (6, [.ref a1, .ref a3, .ref a5, .ref a7, .ref a8, .int (nI (bu)), .int (nI (kd)), .int (nI (pi)), .int (nI (lc)), .int (nI (sb))])), (a1, .inr (3, [.ref a2])), (a2, .inl (cI G, 64, .inl (fun z9 => iI (d2 z9)))), (a3, .inr (3, [.ref a4])), (a4, .inl (cI G, 64, .inl (fun z9 => iI (t2 z9)))), (a5, .inr (3, [.ref a6])), (a6, .inl (cI G, 64, .inl (fun z9 => iI (r2 z9)))), (a7, .inl (cI G, 4, .inl (fun z9 => nI (k2 z9)))), (a8, .inl (cI G, 4, .inl (fun z9 => nI (o z9)))), (g0, .inr (6, [.ref g1, .ref g3, .ref g5, .ref g7, .ref g8, .int (nI (bu2)), .int (nI (kd2)), .int (nI (pi2)), .int (nI (lc2)), .int (nI (sb2))])), (g1, .inr (3, [.ref g2])), (g2, .inl (cI G, 64, .inl (fun z9 => iI (d2 z9)))), (g3, .inr (3, [.ref g4])), (g4, .inl (cI G, 64, .inl (fun z9 => iI (t2 z9)))), (g5, .inr (3, [.ref g6])), (g6, .inl (cI G, 64, .inl (fun z9 => iI (r2 z9)))), (g7, .inl (cI G, 4, .inl (fun z9 => nI (k2 z9)))), (g8, .inl (cI G, 4, .inl (fun z9 => nI (o2 z9))))]) H := hP
  have hD : va_D A ([(h, .inr (6, [.ref a1, .ref a3, .ref a5, .ref a7, .ref a8, .int (nI (bu)), .int (nI (kd)), .int (nI (pi)), .int (nI (lc)), .int (nI (sb))])), (a1, .inr (3, [.ref a2])), (a2, .inl (cI G, 64, .inl (fun z9 => iI (d2 z9)))), (a3, .inr (3, [.ref a4])), (a4, .inl (cI G, 64, .inl (fun z9 => iI (t2 z9)))), (a5, .inr (3, [.ref a6])), (a6, .inl (cI G, 64, .inl (fun z9 => iI (r2 z9)))), (a7, .inl (cI G, 4, .inl (fun z9 => nI (k2 z9)))), (a8, .inl (cI G, 4, .inl (fun z9 => nI (o z9)))), (g0, .inr (6, [.ref g1, .ref g3, .ref g5, .ref g7, .ref g8, .int (nI (bu2)), .int (nI (kd2)), .int (nI (pi2)), .int (nI (lc2)), .int (nI (sb2))])), (g1, .inr (3, [.ref g2])), (g2, .inl (cI G, 64, .inl (fun z9 => iI (d2 z9)))), (g3, .inr (3, [.ref g4])), (g4, .inl (cI G, 64, .inl (fun z9 => iI (t2 z9)))), (g5, .inr (3, [.ref g6])), (g6, .inl (cI G, 64, .inl (fun z9 => iI (r2 z9)))), (g7, .inl (cI G, 4, .inl (fun z9 => nI (k2 z9)))), (g8, .inl (cI G, 4, .inl (fun z9 => nI (o2 z9))))]) := hD
  refine lv_aload_n hx hb dX7_copyFrom_47 rfl (lv_at hl 1 rfl) ?_
  refine va_get (D := gD G) (cl := vwCl) (tys := tyl G) (ci := 6) (v := .ref g8) (C := RX7) (T := TX7) (N := 10) hx hb hts (by decide +kernel) hown hC.K hP 9 rfl rfl 4 (by decide) (hts (.fieldLink RX7 28 "MotionPost$State" "moves" "[I") (by decide +kernel)) (fun _ h9 => h9) rfl dX7_copyFrom_48 ?_
  refine lv_iconst (v := nI (0)) hx hb dX7_copyFrom_51 (by decide) ?_
  refine lv_aload_n hx hb dX7_copyFrom_52 rfl (lv_at hl 0 rfl) ?_
  refine va_get (D := gD G) (cl := vwCl) (tys := tyl G) (ci := 6) (v := .ref a8) (C := RX7) (T := TX7) (N := 10) hx hb hts (by decide +kernel) hown hC.K hP 0 rfl rfl 4 (by decide) (hts (.fieldLink RX7 28 "MotionPost$State" "moves" "[I") (by decide +kernel)) (fun _ h9 => h9) rfl dX7_copyFrom_53 ?_
  refine lv_iconst (v := nI (0)) hx hb dX7_copyFrom_56 (by decide) ?_
  refine lv_iconst (v := nI (4)) hx hb dX7_copyFrom_57 (by decide) ?_
  refine gCopy (k := 4) (t0 := 0) hx hb (hml.trans hl.1.symm) hown (hts (.methodLink RX7 51 arraycopyName) (by decide +kernel)) (hts (.native arraycopyName) (by decide +kernel)) (hts (.static arraycopyName) (by decide +kernel)) (hts (.initialized "java/lang/System") (by decide +kernel)) hC.K hP hD hS 17 8 rfl rfl rfl (by decide) (by decide) (Nat.le_of_ble_eq_true rfl) (Nat.le_of_ble_eq_true rfl) dX7_copyFrom_58 (fun H locs hP hD hS => ?_)
  have hP : PP G ([(h, .inr (6, [.ref a1, .ref a3, .ref a5, .ref a7, .ref a8, .int (nI (bu)), .int (nI (kd)), .int (nI (pi)), .int (nI (lc)), .int (nI (sb))])), (a1, .inr (3, [.ref a2])), (a2, .inl (cI G, 64, .inl (fun z9 => iI (d2 z9)))), (a3, .inr (3, [.ref a4])), (a4, .inl (cI G, 64, .inl (fun z9 => iI (t2 z9)))), (a5, .inr (3, [.ref a6])), (a6, .inl (cI G, 64, .inl (fun z9 => iI (r2 z9)))), (a7, .inl (cI G, 4, .inl (fun z9 => nI (k2 z9)))), (a8, .inl (cI G, 4, .inl (fun z9 => nI (o2 z9)))), (g0, .inr (6, [.ref g1, .ref g3, .ref g5, .ref g7, .ref g8, .int (nI (bu2)), .int (nI (kd2)), .int (nI (pi2)), .int (nI (lc2)), .int (nI (sb2))])), (g1, .inr (3, [.ref g2])), (g2, .inl (cI G, 64, .inl (fun z9 => iI (d2 z9)))), (g3, .inr (3, [.ref g4])), (g4, .inl (cI G, 64, .inl (fun z9 => iI (t2 z9)))), (g5, .inr (3, [.ref g6])), (g6, .inl (cI G, 64, .inl (fun z9 => iI (r2 z9)))), (g7, .inl (cI G, 4, .inl (fun z9 => nI (k2 z9)))), (g8, .inl (cI G, 4, .inl (fun z9 => nI (o2 z9))))]) H := hP
  have hD : va_D A ([(h, .inr (6, [.ref a1, .ref a3, .ref a5, .ref a7, .ref a8, .int (nI (bu)), .int (nI (kd)), .int (nI (pi)), .int (nI (lc)), .int (nI (sb))])), (a1, .inr (3, [.ref a2])), (a2, .inl (cI G, 64, .inl (fun z9 => iI (d2 z9)))), (a3, .inr (3, [.ref a4])), (a4, .inl (cI G, 64, .inl (fun z9 => iI (t2 z9)))), (a5, .inr (3, [.ref a6])), (a6, .inl (cI G, 64, .inl (fun z9 => iI (r2 z9)))), (a7, .inl (cI G, 4, .inl (fun z9 => nI (k2 z9)))), (a8, .inl (cI G, 4, .inl (fun z9 => nI (o2 z9)))), (g0, .inr (6, [.ref g1, .ref g3, .ref g5, .ref g7, .ref g8, .int (nI (bu2)), .int (nI (kd2)), .int (nI (pi2)), .int (nI (lc2)), .int (nI (sb2))])), (g1, .inr (3, [.ref g2])), (g2, .inl (cI G, 64, .inl (fun z9 => iI (d2 z9)))), (g3, .inr (3, [.ref g4])), (g4, .inl (cI G, 64, .inl (fun z9 => iI (t2 z9)))), (g5, .inr (3, [.ref g6])), (g6, .inl (cI G, 64, .inl (fun z9 => iI (r2 z9)))), (g7, .inl (cI G, 4, .inl (fun z9 => nI (k2 z9)))), (g8, .inl (cI G, 4, .inl (fun z9 => nI (o2 z9))))]) := hD
  refine lv_aload_n hx hb dX7_copyFrom_61 rfl (lv_at hl 0 rfl) ?_
  refine lv_aload_n hx hb dX7_copyFrom_62 rfl (lv_at hl 1 rfl) ?_
  refine va_get (D := gD G) (cl := vwCl) (tys := tyl G) (ci := 6) (v := .int (nI (bu2))) (C := RX7) (T := TX7) (N := 10) hx hb hts (by decide +kernel) hown hC.K hP 9 rfl rfl 5 (by decide) (hts (.fieldLink RX7 31 "MotionPost$State" "budget" "I") (by decide +kernel)) (fun _ h9 => h9) rfl dX7_copyFrom_63 ?_
  refine va_put (D := gD G) (cl := vwCl) (tys := tyl G) (ci := 6) (v := .int (nI (bu2))) (ty := .int) (C := RX7) (T := TX7) (N := 10) hx hb hts (by decide +kernel) tyX7 tyX7_ok nmX7 hown hC.K hP hD hS 0 rfl rfl 5 (by decide) (hts (.fieldLink RX7 31 "MotionPost$State" "budget" "I") (by decide +kernel)) (fun _ h9 => h9) rfl (by decide +kernel) (rfl) rfl (Nat.le_of_ble_eq_true rfl) dX7_copyFrom_66 (fun H locs hP hD hS => ?_)
  have hP : PP G ([(h, .inr (6, [.ref a1, .ref a3, .ref a5, .ref a7, .ref a8, .int (nI (bu2)), .int (nI (kd)), .int (nI (pi)), .int (nI (lc)), .int (nI (sb))])), (a1, .inr (3, [.ref a2])), (a2, .inl (cI G, 64, .inl (fun z9 => iI (d2 z9)))), (a3, .inr (3, [.ref a4])), (a4, .inl (cI G, 64, .inl (fun z9 => iI (t2 z9)))), (a5, .inr (3, [.ref a6])), (a6, .inl (cI G, 64, .inl (fun z9 => iI (r2 z9)))), (a7, .inl (cI G, 4, .inl (fun z9 => nI (k2 z9)))), (a8, .inl (cI G, 4, .inl (fun z9 => nI (o2 z9)))), (g0, .inr (6, [.ref g1, .ref g3, .ref g5, .ref g7, .ref g8, .int (nI (bu2)), .int (nI (kd2)), .int (nI (pi2)), .int (nI (lc2)), .int (nI (sb2))])), (g1, .inr (3, [.ref g2])), (g2, .inl (cI G, 64, .inl (fun z9 => iI (d2 z9)))), (g3, .inr (3, [.ref g4])), (g4, .inl (cI G, 64, .inl (fun z9 => iI (t2 z9)))), (g5, .inr (3, [.ref g6])), (g6, .inl (cI G, 64, .inl (fun z9 => iI (r2 z9)))), (g7, .inl (cI G, 4, .inl (fun z9 => nI (k2 z9)))), (g8, .inl (cI G, 4, .inl (fun z9 => nI (o2 z9))))]) H := hP
  have hD : va_D A ([(h, .inr (6, [.ref a1, .ref a3, .ref a5, .ref a7, .ref a8, .int (nI (bu2)), .int (nI (kd)), .int (nI (pi)), .int (nI (lc)), .int (nI (sb))])), (a1, .inr (3, [.ref a2])), (a2, .inl (cI G, 64, .inl (fun z9 => iI (d2 z9)))), (a3, .inr (3, [.ref a4])), (a4, .inl (cI G, 64, .inl (fun z9 => iI (t2 z9)))), (a5, .inr (3, [.ref a6])), (a6, .inl (cI G, 64, .inl (fun z9 => iI (r2 z9)))), (a7, .inl (cI G, 4, .inl (fun z9 => nI (k2 z9)))), (a8, .inl (cI G, 4, .inl (fun z9 => nI (o2 z9)))), (g0, .inr (6, [.ref g1, .ref g3, .ref g5, .ref g7, .ref g8, .int (nI (bu2)), .int (nI (kd2)), .int (nI (pi2)), .int (nI (lc2)), .int (nI (sb2))])), (g1, .inr (3, [.ref g2])), (g2, .inl (cI G, 64, .inl (fun z9 => iI (d2 z9)))), (g3, .inr (3, [.ref g4])), (g4, .inl (cI G, 64, .inl (fun z9 => iI (t2 z9)))), (g5, .inr (3, [.ref g6])), (g6, .inl (cI G, 64, .inl (fun z9 => iI (r2 z9)))), (g7, .inl (cI G, 4, .inl (fun z9 => nI (k2 z9)))), (g8, .inl (cI G, 4, .inl (fun z9 => nI (o2 z9))))]) := hD
  refine lv_aload_n hx hb dX7_copyFrom_69 rfl (lv_at hl 0 rfl) ?_
  refine lv_aload_n hx hb dX7_copyFrom_70 rfl (lv_at hl 1 rfl) ?_
  refine va_get (D := gD G) (cl := vwCl) (tys := tyl G) (ci := 6) (v := .int (nI (kd2))) (C := RX7) (T := TX7) (N := 10) hx hb hts (by decide +kernel) hown hC.K hP 9 rfl rfl 6 (by decide) (hts (.fieldLink RX7 35 "MotionPost$State" "keyDistance" "I") (by decide +kernel)) (fun _ h9 => h9) rfl dX7_copyFrom_71 ?_
  refine va_put (D := gD G) (cl := vwCl) (tys := tyl G) (ci := 6) (v := .int (nI (kd2))) (ty := .int) (C := RX7) (T := TX7) (N := 10) hx hb hts (by decide +kernel) tyX7 tyX7_ok nmX7 hown hC.K hP hD hS 0 rfl rfl 6 (by decide) (hts (.fieldLink RX7 35 "MotionPost$State" "keyDistance" "I") (by decide +kernel)) (fun _ h9 => h9) rfl (by decide +kernel) (rfl) rfl (Nat.le_of_ble_eq_true rfl) dX7_copyFrom_74 (fun H locs hP hD hS => ?_)
  have hP : PP G ([(h, .inr (6, [.ref a1, .ref a3, .ref a5, .ref a7, .ref a8, .int (nI (bu2)), .int (nI (kd2)), .int (nI (pi)), .int (nI (lc)), .int (nI (sb))])), (a1, .inr (3, [.ref a2])), (a2, .inl (cI G, 64, .inl (fun z9 => iI (d2 z9)))), (a3, .inr (3, [.ref a4])), (a4, .inl (cI G, 64, .inl (fun z9 => iI (t2 z9)))), (a5, .inr (3, [.ref a6])), (a6, .inl (cI G, 64, .inl (fun z9 => iI (r2 z9)))), (a7, .inl (cI G, 4, .inl (fun z9 => nI (k2 z9)))), (a8, .inl (cI G, 4, .inl (fun z9 => nI (o2 z9)))), (g0, .inr (6, [.ref g1, .ref g3, .ref g5, .ref g7, .ref g8, .int (nI (bu2)), .int (nI (kd2)), .int (nI (pi2)), .int (nI (lc2)), .int (nI (sb2))])), (g1, .inr (3, [.ref g2])), (g2, .inl (cI G, 64, .inl (fun z9 => iI (d2 z9)))), (g3, .inr (3, [.ref g4])), (g4, .inl (cI G, 64, .inl (fun z9 => iI (t2 z9)))), (g5, .inr (3, [.ref g6])), (g6, .inl (cI G, 64, .inl (fun z9 => iI (r2 z9)))), (g7, .inl (cI G, 4, .inl (fun z9 => nI (k2 z9)))), (g8, .inl (cI G, 4, .inl (fun z9 => nI (o2 z9))))]) H := hP
  have hD : va_D A ([(h, .inr (6, [.ref a1, .ref a3, .ref a5, .ref a7, .ref a8, .int (nI (bu2)), .int (nI (kd2)), .int (nI (pi)), .int (nI (lc)), .int (nI (sb))])), (a1, .inr (3, [.ref a2])), (a2, .inl (cI G, 64, .inl (fun z9 => iI (d2 z9)))), (a3, .inr (3, [.ref a4])), (a4, .inl (cI G, 64, .inl (fun z9 => iI (t2 z9)))), (a5, .inr (3, [.ref a6])), (a6, .inl (cI G, 64, .inl (fun z9 => iI (r2 z9)))), (a7, .inl (cI G, 4, .inl (fun z9 => nI (k2 z9)))), (a8, .inl (cI G, 4, .inl (fun z9 => nI (o2 z9)))), (g0, .inr (6, [.ref g1, .ref g3, .ref g5, .ref g7, .ref g8, .int (nI (bu2)), .int (nI (kd2)), .int (nI (pi2)), .int (nI (lc2)), .int (nI (sb2))])), (g1, .inr (3, [.ref g2])), (g2, .inl (cI G, 64, .inl (fun z9 => iI (d2 z9)))), (g3, .inr (3, [.ref g4])), (g4, .inl (cI G, 64, .inl (fun z9 => iI (t2 z9)))), (g5, .inr (3, [.ref g6])), (g6, .inl (cI G, 64, .inl (fun z9 => iI (r2 z9)))), (g7, .inl (cI G, 4, .inl (fun z9 => nI (k2 z9)))), (g8, .inl (cI G, 4, .inl (fun z9 => nI (o2 z9))))]) := hD
  refine lv_aload_n hx hb dX7_copyFrom_77 rfl (lv_at hl 0 rfl) ?_
  refine lv_aload_n hx hb dX7_copyFrom_78 rfl (lv_at hl 1 rfl) ?_
  refine va_get (D := gD G) (cl := vwCl) (tys := tyl G) (ci := 6) (v := .int (nI (pi2))) (C := RX7) (T := TX7) (N := 10) hx hb hts (by decide +kernel) hown hC.K hP 9 rfl rfl 7 (by decide) (hts (.fieldLink RX7 38 "MotionPost$State" "pictures" "I") (by decide +kernel)) (fun _ h9 => h9) rfl dX7_copyFrom_79 ?_
  refine va_put (D := gD G) (cl := vwCl) (tys := tyl G) (ci := 6) (v := .int (nI (pi2))) (ty := .int) (C := RX7) (T := TX7) (N := 10) hx hb hts (by decide +kernel) tyX7 tyX7_ok nmX7 hown hC.K hP hD hS 0 rfl rfl 7 (by decide) (hts (.fieldLink RX7 38 "MotionPost$State" "pictures" "I") (by decide +kernel)) (fun _ h9 => h9) rfl (by decide +kernel) (rfl) rfl (Nat.le_of_ble_eq_true rfl) dX7_copyFrom_82 (fun H locs hP hD hS => ?_)
  have hP : PP G ([(h, .inr (6, [.ref a1, .ref a3, .ref a5, .ref a7, .ref a8, .int (nI (bu2)), .int (nI (kd2)), .int (nI (pi2)), .int (nI (lc)), .int (nI (sb))])), (a1, .inr (3, [.ref a2])), (a2, .inl (cI G, 64, .inl (fun z9 => iI (d2 z9)))), (a3, .inr (3, [.ref a4])), (a4, .inl (cI G, 64, .inl (fun z9 => iI (t2 z9)))), (a5, .inr (3, [.ref a6])), (a6, .inl (cI G, 64, .inl (fun z9 => iI (r2 z9)))), (a7, .inl (cI G, 4, .inl (fun z9 => nI (k2 z9)))), (a8, .inl (cI G, 4, .inl (fun z9 => nI (o2 z9)))), (g0, .inr (6, [.ref g1, .ref g3, .ref g5, .ref g7, .ref g8, .int (nI (bu2)), .int (nI (kd2)), .int (nI (pi2)), .int (nI (lc2)), .int (nI (sb2))])), (g1, .inr (3, [.ref g2])), (g2, .inl (cI G, 64, .inl (fun z9 => iI (d2 z9)))), (g3, .inr (3, [.ref g4])), (g4, .inl (cI G, 64, .inl (fun z9 => iI (t2 z9)))), (g5, .inr (3, [.ref g6])), (g6, .inl (cI G, 64, .inl (fun z9 => iI (r2 z9)))), (g7, .inl (cI G, 4, .inl (fun z9 => nI (k2 z9)))), (g8, .inl (cI G, 4, .inl (fun z9 => nI (o2 z9))))]) H := hP
  have hD : va_D A ([(h, .inr (6, [.ref a1, .ref a3, .ref a5, .ref a7, .ref a8, .int (nI (bu2)), .int (nI (kd2)), .int (nI (pi2)), .int (nI (lc)), .int (nI (sb))])), (a1, .inr (3, [.ref a2])), (a2, .inl (cI G, 64, .inl (fun z9 => iI (d2 z9)))), (a3, .inr (3, [.ref a4])), (a4, .inl (cI G, 64, .inl (fun z9 => iI (t2 z9)))), (a5, .inr (3, [.ref a6])), (a6, .inl (cI G, 64, .inl (fun z9 => iI (r2 z9)))), (a7, .inl (cI G, 4, .inl (fun z9 => nI (k2 z9)))), (a8, .inl (cI G, 4, .inl (fun z9 => nI (o2 z9)))), (g0, .inr (6, [.ref g1, .ref g3, .ref g5, .ref g7, .ref g8, .int (nI (bu2)), .int (nI (kd2)), .int (nI (pi2)), .int (nI (lc2)), .int (nI (sb2))])), (g1, .inr (3, [.ref g2])), (g2, .inl (cI G, 64, .inl (fun z9 => iI (d2 z9)))), (g3, .inr (3, [.ref g4])), (g4, .inl (cI G, 64, .inl (fun z9 => iI (t2 z9)))), (g5, .inr (3, [.ref g6])), (g6, .inl (cI G, 64, .inl (fun z9 => iI (r2 z9)))), (g7, .inl (cI G, 4, .inl (fun z9 => nI (k2 z9)))), (g8, .inl (cI G, 4, .inl (fun z9 => nI (o2 z9))))]) := hD
  refine lv_aload_n hx hb dX7_copyFrom_85 rfl (lv_at hl 0 rfl) ?_
  refine lv_aload_n hx hb dX7_copyFrom_86 rfl (lv_at hl 1 rfl) ?_
  refine va_get (D := gD G) (cl := vwCl) (tys := tyl G) (ci := 6) (v := .int (nI (lc2))) (C := RX7) (T := TX7) (N := 10) hx hb hts (by decide +kernel) hown hC.K hP 9 rfl rfl 8 (by decide) (hts (.fieldLink RX7 41 "MotionPost$State" "lostPictures" "I") (by decide +kernel)) (fun _ h9 => h9) rfl dX7_copyFrom_87 ?_
  refine va_put (D := gD G) (cl := vwCl) (tys := tyl G) (ci := 6) (v := .int (nI (lc2))) (ty := .int) (C := RX7) (T := TX7) (N := 10) hx hb hts (by decide +kernel) tyX7 tyX7_ok nmX7 hown hC.K hP hD hS 0 rfl rfl 8 (by decide) (hts (.fieldLink RX7 41 "MotionPost$State" "lostPictures" "I") (by decide +kernel)) (fun _ h9 => h9) rfl (by decide +kernel) (rfl) rfl (Nat.le_of_ble_eq_true rfl) dX7_copyFrom_90 (fun H locs hP hD hS => ?_)
  have hP : PP G ([(h, .inr (6, [.ref a1, .ref a3, .ref a5, .ref a7, .ref a8, .int (nI (bu2)), .int (nI (kd2)), .int (nI (pi2)), .int (nI (lc2)), .int (nI (sb))])), (a1, .inr (3, [.ref a2])), (a2, .inl (cI G, 64, .inl (fun z9 => iI (d2 z9)))), (a3, .inr (3, [.ref a4])), (a4, .inl (cI G, 64, .inl (fun z9 => iI (t2 z9)))), (a5, .inr (3, [.ref a6])), (a6, .inl (cI G, 64, .inl (fun z9 => iI (r2 z9)))), (a7, .inl (cI G, 4, .inl (fun z9 => nI (k2 z9)))), (a8, .inl (cI G, 4, .inl (fun z9 => nI (o2 z9)))), (g0, .inr (6, [.ref g1, .ref g3, .ref g5, .ref g7, .ref g8, .int (nI (bu2)), .int (nI (kd2)), .int (nI (pi2)), .int (nI (lc2)), .int (nI (sb2))])), (g1, .inr (3, [.ref g2])), (g2, .inl (cI G, 64, .inl (fun z9 => iI (d2 z9)))), (g3, .inr (3, [.ref g4])), (g4, .inl (cI G, 64, .inl (fun z9 => iI (t2 z9)))), (g5, .inr (3, [.ref g6])), (g6, .inl (cI G, 64, .inl (fun z9 => iI (r2 z9)))), (g7, .inl (cI G, 4, .inl (fun z9 => nI (k2 z9)))), (g8, .inl (cI G, 4, .inl (fun z9 => nI (o2 z9))))]) H := hP
  have hD : va_D A ([(h, .inr (6, [.ref a1, .ref a3, .ref a5, .ref a7, .ref a8, .int (nI (bu2)), .int (nI (kd2)), .int (nI (pi2)), .int (nI (lc2)), .int (nI (sb))])), (a1, .inr (3, [.ref a2])), (a2, .inl (cI G, 64, .inl (fun z9 => iI (d2 z9)))), (a3, .inr (3, [.ref a4])), (a4, .inl (cI G, 64, .inl (fun z9 => iI (t2 z9)))), (a5, .inr (3, [.ref a6])), (a6, .inl (cI G, 64, .inl (fun z9 => iI (r2 z9)))), (a7, .inl (cI G, 4, .inl (fun z9 => nI (k2 z9)))), (a8, .inl (cI G, 4, .inl (fun z9 => nI (o2 z9)))), (g0, .inr (6, [.ref g1, .ref g3, .ref g5, .ref g7, .ref g8, .int (nI (bu2)), .int (nI (kd2)), .int (nI (pi2)), .int (nI (lc2)), .int (nI (sb2))])), (g1, .inr (3, [.ref g2])), (g2, .inl (cI G, 64, .inl (fun z9 => iI (d2 z9)))), (g3, .inr (3, [.ref g4])), (g4, .inl (cI G, 64, .inl (fun z9 => iI (t2 z9)))), (g5, .inr (3, [.ref g6])), (g6, .inl (cI G, 64, .inl (fun z9 => iI (r2 z9)))), (g7, .inl (cI G, 4, .inl (fun z9 => nI (k2 z9)))), (g8, .inl (cI G, 4, .inl (fun z9 => nI (o2 z9))))]) := hD
  refine lv_aload_n hx hb dX7_copyFrom_93 rfl (lv_at hl 0 rfl) ?_
  refine lv_aload_n hx hb dX7_copyFrom_94 rfl (lv_at hl 1 rfl) ?_
  refine va_get (D := gD G) (cl := vwCl) (tys := tyl G) (ci := 6) (v := .int (nI (sb2))) (C := RX7) (T := TX7) (N := 10) hx hb hts (by decide +kernel) hown hC.K hP 9 rfl rfl 9 (by decide) (hts (.fieldLink RX7 44 "MotionPost$State" "sentBits" "I") (by decide +kernel)) (fun _ h9 => h9) rfl dX7_copyFrom_95 ?_
  refine va_put (D := gD G) (cl := vwCl) (tys := tyl G) (ci := 6) (v := .int (nI (sb2))) (ty := .int) (C := RX7) (T := TX7) (N := 10) hx hb hts (by decide +kernel) tyX7 tyX7_ok nmX7 hown hC.K hP hD hS 0 rfl rfl 9 (by decide) (hts (.fieldLink RX7 44 "MotionPost$State" "sentBits" "I") (by decide +kernel)) (fun _ h9 => h9) rfl (by decide +kernel) (rfl) rfl (Nat.le_of_ble_eq_true rfl) dX7_copyFrom_98 (fun H locs hP hD hS => ?_)
  have hP : PP G ([(h, .inr (6, [.ref a1, .ref a3, .ref a5, .ref a7, .ref a8, .int (nI (bu2)), .int (nI (kd2)), .int (nI (pi2)), .int (nI (lc2)), .int (nI (sb2))])), (a1, .inr (3, [.ref a2])), (a2, .inl (cI G, 64, .inl (fun z9 => iI (d2 z9)))), (a3, .inr (3, [.ref a4])), (a4, .inl (cI G, 64, .inl (fun z9 => iI (t2 z9)))), (a5, .inr (3, [.ref a6])), (a6, .inl (cI G, 64, .inl (fun z9 => iI (r2 z9)))), (a7, .inl (cI G, 4, .inl (fun z9 => nI (k2 z9)))), (a8, .inl (cI G, 4, .inl (fun z9 => nI (o2 z9)))), (g0, .inr (6, [.ref g1, .ref g3, .ref g5, .ref g7, .ref g8, .int (nI (bu2)), .int (nI (kd2)), .int (nI (pi2)), .int (nI (lc2)), .int (nI (sb2))])), (g1, .inr (3, [.ref g2])), (g2, .inl (cI G, 64, .inl (fun z9 => iI (d2 z9)))), (g3, .inr (3, [.ref g4])), (g4, .inl (cI G, 64, .inl (fun z9 => iI (t2 z9)))), (g5, .inr (3, [.ref g6])), (g6, .inl (cI G, 64, .inl (fun z9 => iI (r2 z9)))), (g7, .inl (cI G, 4, .inl (fun z9 => nI (k2 z9)))), (g8, .inl (cI G, 4, .inl (fun z9 => nI (o2 z9))))]) H := hP
  have hD : va_D A ([(h, .inr (6, [.ref a1, .ref a3, .ref a5, .ref a7, .ref a8, .int (nI (bu2)), .int (nI (kd2)), .int (nI (pi2)), .int (nI (lc2)), .int (nI (sb2))])), (a1, .inr (3, [.ref a2])), (a2, .inl (cI G, 64, .inl (fun z9 => iI (d2 z9)))), (a3, .inr (3, [.ref a4])), (a4, .inl (cI G, 64, .inl (fun z9 => iI (t2 z9)))), (a5, .inr (3, [.ref a6])), (a6, .inl (cI G, 64, .inl (fun z9 => iI (r2 z9)))), (a7, .inl (cI G, 4, .inl (fun z9 => nI (k2 z9)))), (a8, .inl (cI G, 4, .inl (fun z9 => nI (o2 z9)))), (g0, .inr (6, [.ref g1, .ref g3, .ref g5, .ref g7, .ref g8, .int (nI (bu2)), .int (nI (kd2)), .int (nI (pi2)), .int (nI (lc2)), .int (nI (sb2))])), (g1, .inr (3, [.ref g2])), (g2, .inl (cI G, 64, .inl (fun z9 => iI (d2 z9)))), (g3, .inr (3, [.ref g4])), (g4, .inl (cI G, 64, .inl (fun z9 => iI (t2 z9)))), (g5, .inr (3, [.ref g6])), (g6, .inl (cI G, 64, .inl (fun z9 => iI (r2 z9)))), (g7, .inl (cI G, 4, .inl (fun z9 => nI (k2 z9)))), (g8, .inl (cI G, 4, .inl (fun z9 => nI (o2 z9))))]) := hD
  exact xMv (G := G) (post := (fun (u : Unit) => u = ())) (w1 := (fun (u : Unit) => [(h, .inr (6, [.ref a1, .ref a3, .ref a5, .ref a7, .ref a8, .int (nI (bu2)), .int (nI (kd2)), .int (nI (pi2)), .int (nI (lc2)), .int (nI (sb2))])), (a1, .inr (3, [.ref a2])), (a2, .inl (cI G, 64, .inl (fun z9 => iI (d2 z9)))), (a3, .inr (3, [.ref a4])), (a4, .inl (cI G, 64, .inl (fun z9 => iI (t2 z9)))), (a5, .inr (3, [.ref a6])), (a6, .inl (cI G, 64, .inl (fun z9 => iI (r2 z9)))), (a7, .inl (cI G, 4, .inl (fun z9 => nI (k2 z9)))), (a8, .inl (cI G, 4, .inl (fun z9 => nI (o2 z9)))), (g0, .inr (6, [.ref g1, .ref g3, .ref g5, .ref g7, .ref g8, .int (nI (bu2)), .int (nI (kd2)), .int (nI (pi2)), .int (nI (lc2)), .int (nI (sb2))])), (g1, .inr (3, [.ref g2])), (g2, .inl (cI G, 64, .inl (fun z9 => iI (d2 z9)))), (g3, .inr (3, [.ref g4])), (g4, .inl (cI G, 64, .inl (fun z9 => iI (t2 z9)))), (g5, .inr (3, [.ref g6])), (g6, .inl (cI G, 64, .inl (fun z9 => iI (r2 z9)))), (g7, .inl (cI G, 4, .inl (fun z9 => nI (k2 z9)))), (g8, .inl (cI G, 4, .inl (fun z9 => nI (o2 z9))))])) (()) hx hb hr hlocks hP hS (by exact rfl) dX7_copyFrom_101

set_option maxHeartbeats 4000000 in
set_option maxRecDepth 100000 in
theorem c_X3_distanceBy {l : Launch} {G : GT} {H0 : Heap} (h a1 a2 a3 a4 a5 a6 a7 a8 : Nat) (d t r : Nat → Int) (k o : Nat → Nat) (bu kd pi lc sb : Nat) (b mv : Nat) (hd : R15 d) (ht : R15 t) (hb4 : b < 4) (hm : mv < 25) (hP0 : PP G ([(h, .inr (6, [.ref a1, .ref a3, .ref a5, .ref a7, .ref a8, .int (nI (bu)), .int (nI (kd)), .int (nI (pi)), .int (nI (lc)), .int (nI (sb))])), (a1, .inr (3, [.ref a2])), (a2, .inl (cI G, 64, .inl (fun z9 => iI (d z9)))), (a3, .inr (3, [.ref a4])), (a4, .inl (cI G, 64, .inl (fun z9 => iI (t z9)))), (a5, .inr (3, [.ref a6])), (a6, .inl (cI G, 64, .inl (fun z9 => iI (r z9)))), (a7, .inl (cI G, 4, .inl (fun z9 => nI (k z9)))), (a8, .inl (cI G, 4, .inl (fun z9 => nI (o z9))))]) H0) : Met l yX3_distanceBy wsX3_distanceBy ({ frames := 1, cells := 0, slots := 0, locals := 25 } : Room) (pcG G [.ref h, .int (nI (b)), .int (nI (mv))] H0) (qPi (iI (DIST d t b mv)) H0) 0 0 noF := by
  refine enter (cc := cX3_distanceBy) (maxL := 8) (ret := some .int) (own := RX3) (lv := [(0, .ref h), (1, .int (nI (b))), (2, .int (nI (mv)))]) (by decide) rfl rfl rfl (Nat.le_of_ble_eq_true rfl) ?_
  intro pg ev s m below meth c hx hb hr hts hown hlocks hml hnm hH hC ls hl
  subst hH
  have hLo : ∀ q, noF q → lo G q := fun _ h => h.elim
  have hS : va_S noF s.heap s.heap [] := va_S.rf
  generalize ([] : List Loc) = locs at hS ⊢
  have hP := hP0
  refine lv_iload_n hx hb dX3_distanceBy_0 rfl (lv_at hl 2 rfl) ?_
  refine kPi (va_runSN (As := [.int (nI (mv))]) (rest := []) ⟨hx, hb, hml, hown, hts⟩ (c_X8_downOf mv (by first | assumption | omega)) ⟨va_cnB 1 hts gX3_distanceBy_X8_downOf_n9 rfl rfl rfl (hC.nest 38 rfl) (hts (.initialized RX8) (by decide +kernel)) (by decide +kernel) ⟨Nat.le_of_ble_eq_true rfl, Nat.le_of_ble_eq_true rfl⟩, (hts (.static yX8_downOf) (by decide +kernel)), trivial⟩ (preS hC hS hLo) rfl rfl hl.1 rfl (lv_room (Nat.le_of_ble_eq_true rfl)) dX3_distanceBy_1 ⟨Nat.zero_le _, Nat.zero_le _⟩) hS (fun locs hS => ?_)
  refine lv_istore_n (lv' := [(3, .int (iI (mdn mv))), (0, .ref h), (1, .int (nI (b))), (2, .int (nI (mv)))]) hx hb dX3_distanceBy_4 rfl hl (by decide) rfl (fun ls hl => ?_)
  refine lv_iload_n hx hb dX3_distanceBy_5 rfl (lv_at hl 3 rfl) ?_
  refine kPi (va_runSN (As := [.int (nI (mv))]) (rest := []) ⟨hx, hb, hml, hown, hts⟩ (c_X8_rightOf mv (by first | assumption | omega)) ⟨va_cnB 1 hts gX3_distanceBy_X8_rightOf_n13 rfl rfl rfl (hC.nest 39 rfl) (hts (.initialized RX8) (by decide +kernel)) (by decide +kernel) ⟨Nat.le_of_ble_eq_true rfl, Nat.le_of_ble_eq_true rfl⟩, (hts (.static yX8_rightOf) (by decide +kernel)), trivial⟩ (preS hC hS hLo) rfl rfl hl.1 rfl (lv_room (Nat.le_of_ble_eq_true rfl)) dX3_distanceBy_6 ⟨Nat.zero_le _, Nat.zero_le _⟩) hS (fun locs hS => ?_)
  refine lv_istore (lv' := [(4, .int (iI (mrt mv))), (3, .int (iI (mdn mv))), (0, .ref h), (1, .int (nI (b))), (2, .int (nI (mv)))]) hx hb dX3_distanceBy_9 hl (by decide) rfl (fun ls hl => ?_)
  refine lv_iconst (v := nI (0)) hx hb dX3_distanceBy_11 (by decide) ?_
  refine lv_istore (lv' := [(5, .int (nI (0))), (4, .int (iI (mrt mv))), (3, .int (iI (mdn mv))), (0, .ref h), (1, .int (nI (b))), (2, .int (nI (mv)))]) hx hb dX3_distanceBy_12 hl (by decide) rfl (fun ls hl => ?_)
  have hmd := mdn_in hm
  have hmr := mrt_in mv
  refine lv_iconst (v := nI (0)) hx hb dX3_distanceBy_14 (by decide) ?_
  refine lv_istore (lv' := [(6, .int (nI (0))), (5, .int (nI (0))), (4, .int (iI (mrt mv))), (3, .int (iI (mdn mv))), (0, .ref h), (1, .int (nI (b))), (2, .int (nI (mv)))]) hx hb dX3_distanceBy_15 hl (by decide) rfl (fun ls hl => ?_)
  have L_17 : ∀ (n_17 : Nat) (i : Nat), 16 - i < n_17 → i ≤ 16 → ∀ (locs : List Loc) (ls : Array Slot), va_S noF s.heap s.heap locs → lv_has ls 8 [(0, .ref h), (1, .int (nI (b))), (2, .int (nI (mv))), (3, .int (iI (mdn mv))), (4, .int (iI (mrt mv))), (5, .int (iI (sZ (DT d t b mv) i))), (6, .int (nI (i)))] → W pg l ev ({ frames := 1, cells := 0, slots := 0, locals := 25 } : Room) s m (([.ref h, .int (nI (b)), .int (nI (mv))] : List Value).toArray) below meth c s.heap locs 0 0 (MQ below (qPi (iI (DIST d t b mv)) s.heap) (([.ref h, .int (nI (b)), .int (nI (mv))] : List Value).toArray) s 0 0 noF) (F0 m 17 ls []) := by
    intro n_17
    induction n_17 with
    | zero => intro i hn; exact absurd hn (Nat.not_lt_zero _)
    | succ n_17 ih_17 =>
      intro i hn_17 hi locs ls hS hl
      refine lv_iload hx hb dX3_distanceBy_17 (lv_at hl 6 rfl) ?_
      refine lv_bipush (v := nI (16)) hx hb dX3_distanceBy_19 (by decide) ?_
      refine lv_icmp_ge (tgt := 68) hx hb dX3_distanceBy_21 (by decide) (fun c_1 => ?_) (fun c_1 => ?_)
      · have f_2 : (16 : Int) ≤ ((i : Nat) : Int) := (c_le (nI_toInt (n := 16) (by omega)) (nI_toInt (n := i) (by omega))).mp c_1
        have ei : i = 16 := by omega
        subst ei
        refine lv_iload hx hb dX3_distanceBy_68 (lv_at hl 5 rfl) ?_
        exact xPi hx hb hr hlocks hS (by exact rfl) (by exact rfl) dX3_distanceBy_70
      · have f_3 : ¬ (16 : Int) ≤ ((i : Nat) : Int) := fun z => c_1 ((c_le (nI_toInt (n := 16) (by omega)) (nI_toInt (n := i) (by omega))).mpr z)
        refine lv_iload_n hx hb dX3_distanceBy_24 rfl (lv_at hl 1 rfl) ?_
        refine lv_iload hx hb dX3_distanceBy_25 (lv_at hl 6 rfl) ?_
        refine kPi (va_runSN (As := [.int (nI (b)), .int (nI (i))]) (rest := []) ⟨hx, hb, hml, hown, hts⟩ (c_X8_pixelIn b i (by first | assumption | omega) (by first | assumption | omega)) ⟨va_cnB 2 hts gX3_distanceBy_X8_pixelIn_n16 rfl rfl rfl (hC.nest 40 rfl) (hts (.initialized RX8) (by decide +kernel)) (by decide +kernel) ⟨Nat.le_of_ble_eq_true rfl, Nat.le_of_ble_eq_true rfl⟩, (hts (.static yX8_pixelIn) (by decide +kernel)), trivial⟩ (preS hC hS hLo) rfl rfl hl.1 rfl (lv_room (Nat.le_of_ble_eq_true rfl)) dX3_distanceBy_27 ⟨Nat.zero_le _, Nat.zero_le _⟩) hS (fun locs hS => ?_)
        refine lv_istore (lv' := [(7, .int (nI (px b i))), (0, .ref h), (1, .int (nI (b))), (2, .int (nI (mv))), (3, .int (iI (mdn mv))), (4, .int (iI (mrt mv))), (5, .int (iI (sZ (DT d t b mv) i))), (6, .int (nI (i)))]) hx hb dX3_distanceBy_30 hl (by decide) rfl (fun ls hl => ?_)
        have hpx := px_lt hb4 (by omega : i < 16)
        refine lv_iload hx hb dX3_distanceBy_32 (lv_at hl 6 rfl) ?_
        refine lv_aload_n hx hb dX3_distanceBy_34 rfl (lv_at hl 1 rfl) ?_
        refine va_getN (D := gD G) (cl := vwCl) (tys := tyl G) (ci := 6) (v := .ref a1) (C := RX7) (T := TX7) (N := 10) (host := "MotionPost") (ref := "MotionPost$State") hx hb hts (by decide +kernel) hown hC.K hP 0 rfl rfl 0 (by decide) (hC.nestW 3 rfl rfl) (fun _ h9 => h9) rfl dX3_distanceBy_35 ?_
        refine lv_iload hx hb dX3_distanceBy_38 (lv_at hl 0 rfl) ?_
        refine kPi (va_runVN (As := [.int (nI (px b i))]) (rest := [.int (iI (sZ (DT d t b mv) i))]) ⟨hx, hb, hml, hown, hts⟩ (c_X4_valueAt a1 a2 d (px b i) (by first | assumption | omega) (hP.sub [1, 2] rfl)) ⟨va_cnB 1 hts gX3_distanceBy_X4_valueAt_n26 rfl rfl rfl (hC.nest 41 rfl) (hts (.initialized RX4) (by decide +kernel)) (by decide +kernel) ⟨Nat.le_of_ble_eq_true rfl, Nat.le_of_ble_eq_true rfl⟩, (hts (.instanceMethod yX4_valueAt) (by decide +kernel)), (hts (.selects RX4 yX4_valueAt yX4_valueAt) (by decide +kernel))⟩ (preV hC hS hLo hP (ci := 3) (q0 := 1) rfl rfl) rfl rfl hl.1 rfl (lv_room (Nat.le_of_ble_eq_true rfl)) dX3_distanceBy_40 ⟨Nat.zero_le _, Nat.zero_le _⟩) hS (fun locs hS => ?_)
        refine lv_aload_n hx hb dX3_distanceBy_43 rfl (lv_at hl 1 rfl) ?_
        refine va_getN (D := gD G) (cl := vwCl) (tys := tyl G) (ci := 6) (v := .ref a3) (C := RX7) (T := TX7) (N := 10) (host := "MotionPost") (ref := "MotionPost$State") hx hb hts (by decide +kernel) hown hC.K hP 0 rfl rfl 1 (by decide) (hC.nestW 5 rfl rfl) (fun _ h9 => h9) rfl dX3_distanceBy_44 ?_
        refine lv_iload hx hb dX3_distanceBy_47 (lv_at hl 0 rfl) ?_
        refine lv_iload_n hx hb dX3_distanceBy_49 rfl (lv_at hl 4 rfl) ?_
        refine lv_iload hx hb dX3_distanceBy_50 (lv_at hl 5 rfl) ?_
        refine kPi (va_runVN (As := [.int (nI (px b i)), .int (iI (mdn mv)), .int (iI (mrt mv))]) (rest := [.int (iI (d (px b i))), .int (iI (sZ (DT d t b mv) i))]) ⟨hx, hb, hml, hown, hts⟩ (c_X4_movedValueAt a3 a4 t (px b i) (mdn mv) (mrt mv) (by first | assumption | omega) (by first | assumption | omega) (by first | assumption | omega) (hP.sub [3, 4] rfl)) ⟨va_cnB 3 hts gX3_distanceBy_X4_movedValueAt_n34 rfl rfl rfl (hC.nest 42 rfl) (hts (.initialized RX4) (by decide +kernel)) (by decide +kernel) ⟨Nat.le_of_ble_eq_true rfl, Nat.le_of_ble_eq_true rfl⟩, (hts (.instanceMethod yX4_movedValueAt) (by decide +kernel)), (hts (.selects RX4 yX4_movedValueAt yX4_movedValueAt) (by decide +kernel))⟩ (preV hC hS hLo hP (ci := 3) (q0 := 3) rfl rfl) rfl rfl hl.1 rfl (lv_room (Nat.le_of_ble_eq_true rfl)) dX3_distanceBy_52 ⟨Nat.zero_le _, Nat.zero_le _⟩) hS (fun locs hS => ?_)
        have hb1 := hd (px b i)
        have hb2 := ht (fr (px b i) (mdn mv) (mrt mv))
        refine gSub (z := iI ((d (px b i)) - (t (fr (px b i) (mdn mv) (mrt mv))))) hx hb dX3_distanceBy_55 (z_sub rfl rfl) ?_
        refine va_mabs hx hb (hml.trans hl.1.symm) hown (hts (.methodLink RX3 38 Lib.Math.abs.name) (by decide +kernel)) (hts (.static Lib.Math.abs.name) (by decide +kernel)) (hts (.initialized "java/lang/Math") (by decide +kernel)) (hts (.code Lib.Math.abs.name Lib.Math.abs.code 1 (some .int)) (by decide +kernel)) (Nat.le_of_ble_eq_true rfl) (Nat.le_of_ble_eq_true rfl) (Nat.zero_le _) (Nat.zero_le _) dX3_distanceBy_56 ?_
        refine topE (v' := iI ((Int.natAbs ((d (px b i)) - (t (fr (px b i) (mdn mv) (mrt mv)))) : Int))) (ab_z (by omega) (by omega)) ?_
        refine gAdd (z := iI ((sZ (DT d t b mv) i) + ((Int.natAbs ((d (px b i)) - (t (fr (px b i) (mdn mv) (mrt mv)))) : Int)))) hx hb dX3_distanceBy_59 (z_add rfl rfl) ?_
        refine lv_istore (lv' := [(5, .int (iI ((sZ (DT d t b mv) i) + ((Int.natAbs ((d (px b i)) - (t (fr (px b i) (mdn mv) (mrt mv)))) : Int))))), (7, .int (nI (px b i))), (0, .ref h), (1, .int (nI (b))), (2, .int (nI (mv))), (3, .int (iI (mdn mv))), (4, .int (iI (mrt mv))), (6, .int (nI (i)))]) hx hb dX3_distanceBy_60 hl (by decide) rfl (fun ls hl => ?_)
        refine lv_iinc (v := nI (i + 1)) (lv' := [(6, .int (nI (i + 1))), (5, .int (iI ((sZ (DT d t b mv) i) + ((Int.natAbs ((d (px b i)) - (t (fr (px b i) (mdn mv) (mrt mv)))) : Int))))), (7, .int (nI (px b i))), (0, .ref h), (1, .int (nI (b))), (2, .int (nI (mv))), (3, .int (iI (mdn mv))), (4, .int (iI (mrt mv)))]) hx hb dX3_distanceBy_62 hl (k := 7) rfl (inc_p i 1) (by decide) rfl (fun ls hl => ?_)
        refine lv_goto (tgt := 17) hx hb dX3_distanceBy_65 (by decide) ?_
        exact ih_17 (i + 1) (by omega) (by omega) locs ls hS (lv_sub hl [3, 4, 5, 6, 7, 1, 0] ((lvc rfl (lvc rfl (lvc rfl (lvc rfl (lvc rfl (lvc (congrArg Value.int (rfl)) (lvc rfl rfl)))))))))
  exact L_17 (16 + 1) 0 (Nat.lt_succ_self _) (by omega) locs ls hS (lv_sub hl [4, 5, 6, 3, 2, 1, 0] (lvc rfl (lvc rfl (lvc rfl (lvc rfl (lvc rfl (lvc (congrArg Value.int (rfl)) (lvc rfl rfl))))))))

set_option maxHeartbeats 4000000 in
set_option maxRecDepth 100000 in
theorem c_X3_lengthOf {l : Launch} {G : GT} {H0 : Heap} (mv : Nat) (hm : mv < 25) : Met l yX3_lengthOf wsX3_lengthOf ({ frames := 1, cells := 0, slots := 0, locals := 21 } : Room) (pcG G [.int (nI (mv))] H0) (qPi (nI (lenM mv)) H0) 0 0 noF := by
  refine enter (cc := cX3_lengthOf) (maxL := 1) (ret := some .int) (own := RX3) (lv := [(0, .int (nI (mv)))]) (by decide) rfl rfl rfl (Nat.le_of_ble_eq_true rfl) ?_
  intro pg ev s m below meth c hx hb hr hts hown hlocks hml hnm hH hC ls hl
  subst hH
  have hLo : ∀ q, noF q → lo G q := fun _ h => h.elim
  have hS : va_S noF s.heap s.heap [] := va_S.rf
  generalize ([] : List Loc) = locs at hS ⊢
  refine lv_iload_n hx hb dX3_lengthOf_0 rfl (lv_at hl 0 rfl) ?_
  have hmd := mdn_in hm
  have hmr := mrt_in mv
  refine kPi (va_runSN (As := [.int (nI (mv))]) (rest := []) ⟨hx, hb, hml, hown, hts⟩ (c_X8_downOf mv (by first | assumption | omega)) ⟨va_cnB 1 hts gX3_lengthOf_X8_downOf_n9 rfl rfl rfl (hC.nest 38 rfl) (hts (.initialized RX8) (by decide +kernel)) (by decide +kernel) ⟨Nat.le_of_ble_eq_true rfl, Nat.le_of_ble_eq_true rfl⟩, (hts (.static yX8_downOf) (by decide +kernel)), trivial⟩ (preS hC hS hLo) rfl rfl hl.1 rfl (lv_room (Nat.le_of_ble_eq_true rfl)) dX3_lengthOf_1 ⟨Nat.zero_le _, Nat.zero_le _⟩) hS (fun locs hS => ?_)
  refine va_mabs hx hb (hml.trans hl.1.symm) hown (hts (.methodLink RX3 38 Lib.Math.abs.name) (by decide +kernel)) (hts (.static Lib.Math.abs.name) (by decide +kernel)) (hts (.initialized "java/lang/Math") (by decide +kernel)) (hts (.code Lib.Math.abs.name Lib.Math.abs.code 1 (some .int)) (by decide +kernel)) (Nat.le_of_ble_eq_true rfl) (Nat.le_of_ble_eq_true rfl) (Nat.zero_le _) (Nat.zero_le _) dX3_lengthOf_4 ?_
  refine topE (v' := iI ((Int.natAbs (mdn mv) : Int))) (ab_z (by omega) (by omega)) ?_
  refine lv_iload_n hx hb dX3_lengthOf_7 rfl (lv_at hl 0 rfl) ?_
  refine kPi (va_runSN (As := [.int (nI (mv))]) (rest := [.int (iI ((Int.natAbs (mdn mv) : Int)))]) ⟨hx, hb, hml, hown, hts⟩ (c_X8_rightOf mv (by first | assumption | omega)) ⟨va_cnB 1 hts gX3_lengthOf_X8_rightOf_n13 rfl rfl rfl (hC.nest 39 rfl) (hts (.initialized RX8) (by decide +kernel)) (by decide +kernel) ⟨Nat.le_of_ble_eq_true rfl, Nat.le_of_ble_eq_true rfl⟩, (hts (.static yX8_rightOf) (by decide +kernel)), trivial⟩ (preS hC hS hLo) rfl rfl hl.1 rfl (lv_room (Nat.le_of_ble_eq_true rfl)) dX3_lengthOf_8 ⟨Nat.zero_le _, Nat.zero_le _⟩) hS (fun locs hS => ?_)
  refine va_mabs hx hb (hml.trans hl.1.symm) hown (hts (.methodLink RX3 38 Lib.Math.abs.name) (by decide +kernel)) (hts (.static Lib.Math.abs.name) (by decide +kernel)) (hts (.initialized "java/lang/Math") (by decide +kernel)) (hts (.code Lib.Math.abs.name Lib.Math.abs.code 1 (some .int)) (by decide +kernel)) (Nat.le_of_ble_eq_true rfl) (Nat.le_of_ble_eq_true rfl) (Nat.zero_le _) (Nat.zero_le _) dX3_lengthOf_11 ?_
  refine topE (v' := iI ((Int.natAbs (mrt mv) : Int))) (ab_z (by omega) (by omega)) ?_
  refine gAdd (z := nI (lenM mv)) hx hb dX3_lengthOf_14 (by rw [iI_add, nI_i]; rfl) ?_
  exact xPi hx hb hr hlocks hS (by exact rfl) (by exact rfl) dX3_lengthOf_15

set_option maxHeartbeats 4000000 in
set_option maxRecDepth 100000 in
theorem c_X3_bestByLooking {l : Launch} {G : GT} {H0 : Heap} (h a1 a2 a3 a4 a5 a6 a7 a8 : Nat) (d t r : Nat → Int) (k o : Nat → Nat) (bu kd pi lc sb : Nat) (b : Nat) (hd : R15 d) (ht : R15 t) (hb4 : b < 4) (hP0 : PP G ([(h, .inr (6, [.ref a1, .ref a3, .ref a5, .ref a7, .ref a8, .int (nI (bu)), .int (nI (kd)), .int (nI (pi)), .int (nI (lc)), .int (nI (sb))])), (a1, .inr (3, [.ref a2])), (a2, .inl (cI G, 64, .inl (fun z9 => iI (d z9)))), (a3, .inr (3, [.ref a4])), (a4, .inl (cI G, 64, .inl (fun z9 => iI (t z9)))), (a5, .inr (3, [.ref a6])), (a6, .inl (cI G, 64, .inl (fun z9 => iI (r z9)))), (a7, .inl (cI G, 4, .inl (fun z9 => nI (k z9)))), (a8, .inl (cI G, 4, .inl (fun z9 => nI (o z9))))]) H0) : Met l yX3_bestByLooking wsX3_bestByLooking ({ frames := 2, cells := 0, slots := 0, locals := 52 } : Room) (pcG G [.ref h, .int (nI (b))] H0) (qPi (nI (BEST d t b)) H0) 0 0 noF := by
  refine enter (cc := cX3_bestByLooking) (maxL := 6) (ret := some .int) (own := RX3) (lv := [(0, .ref h), (1, .int (nI (b)))]) (by decide) rfl rfl rfl (Nat.le_of_ble_eq_true rfl) ?_
  intro pg ev s m below meth c hx hb hr hts hown hlocks hml hnm hH hC ls hl
  subst hH
  have hLo : ∀ q, noF q → lo G q := fun _ h => h.elim
  have hS : va_S noF s.heap s.heap [] := va_S.rf
  generalize ([] : List Loc) = locs at hS ⊢
  have hP := hP0
  refine lv_iconst (v := nI (0)) hx hb dX3_bestByLooking_0 (by decide) ?_
  refine lv_istore_n (lv' := [(2, .int (nI (0))), (0, .ref h), (1, .int (nI (b)))]) hx hb dX3_bestByLooking_1 rfl hl (by decide) rfl (fun ls hl => ?_)
  refine lv_aload_n hx hb dX3_bestByLooking_2 rfl (lv_at hl 1 rfl) ?_
  refine lv_iload_n hx hb dX3_bestByLooking_3 rfl (lv_at hl 2 rfl) ?_
  refine lv_iconst (v := nI (0)) hx hb dX3_bestByLooking_4 (by decide) ?_
  refine kPi (va_runS (As := [.ref h, .int (nI (b)), .int (nI (0))]) (rest := []) ⟨hx, hb, hml, hown, hts⟩ (c_X3_distanceBy h a1 a2 a3 a4 a5 a6 a7 a8 d t r k o bu kd pi lc sb b 0 (by first | assumption | omega) (by first | assumption | omega) (by first | assumption | omega) (by first | assumption | omega) (hP.sub [0, 1, 2, 3, 4, 5, 6, 7, 8] rfl)) (va_cwS 3 hts gX3_bestByLooking_X3_distanceBy rfl rfl rfl (by decide +kernel) ⟨Nat.le_of_ble_eq_true rfl, Nat.le_of_ble_eq_true rfl⟩) (preS hC hS hLo) rfl rfl hl.1 rfl (lv_room (Nat.le_of_ble_eq_true rfl)) dX3_bestByLooking_5 ⟨Nat.zero_le _, Nat.zero_le _⟩) hS (fun locs hS => ?_)
  refine lv_istore_n (lv' := [(3, .int (iI (DIST d t b 0))), (2, .int (nI (0))), (0, .ref h), (1, .int (nI (b)))]) hx hb dX3_bestByLooking_8 rfl hl (by decide) rfl (fun ls hl => ?_)
  refine lv_iconst (v := nI (1)) hx hb dX3_bestByLooking_9 (by decide) ?_
  refine lv_istore (lv' := [(4, .int (nI (1))), (3, .int (iI (DIST d t b 0))), (2, .int (nI (0))), (0, .ref h), (1, .int (nI (b)))]) hx hb dX3_bestByLooking_10 hl (by decide) rfl (fun ls hl => ?_)
  have L_12 : ∀ (n_12 : Nat) (i : Nat), 24 - i < n_12 → i ≤ 24 → ∀ (locs : List Loc) (ls : Array Slot), va_S noF s.heap s.heap locs → lv_has ls 6 [(0, .ref h), (1, .int (nI (b))), (2, .int (nI (bst (DIST d t b) i))), (3, .int (iI (DIST d t b (bst (DIST d t b) i)))), (4, .int (nI (i + 1)))] → W pg l ev ({ frames := 2, cells := 0, slots := 0, locals := 52 } : Room) s m (([.ref h, .int (nI (b))] : List Value).toArray) below meth c s.heap locs 0 0 (MQ below (qPi (nI (BEST d t b)) s.heap) (([.ref h, .int (nI (b))] : List Value).toArray) s 0 0 noF) (F0 m 12 ls []) := by
    intro n_12
    induction n_12 with
    | zero => intro i hn; exact absurd hn (Nat.not_lt_zero _)
    | succ n_12 ih_12 =>
      intro i hn_12 hi locs ls hS hl
      refine lv_iload hx hb dX3_bestByLooking_12 (lv_at hl 4 rfl) ?_
      refine lv_bipush (v := nI (25)) hx hb dX3_bestByLooking_14 (by decide) ?_
      refine lv_icmp_ge (tgt := 64) hx hb dX3_bestByLooking_16 (by decide) (fun c_1 => ?_) (fun c_1 => ?_)
      · have f_2 : (25 : Int) ≤ ((i + 1 : Nat) : Int) := (c_le (nI_toInt (n := 25) (by omega)) (nI_toInt (n := i + 1) (by omega))).mp c_1
        have ei : i = 24 := by omega
        subst ei
        refine lv_iload_n hx hb dX3_bestByLooking_64 rfl (lv_at hl 2 rfl) ?_
        exact xPi hx hb hr hlocks hS (by exact rfl) (by exact rfl) dX3_bestByLooking_65
      · have f_3 : ¬ (25 : Int) ≤ ((i + 1 : Nat) : Int) := fun z => c_1 ((c_le (nI_toInt (n := 25) (by omega)) (nI_toInt (n := i + 1) (by omega))).mpr z)
        have hble := bst_le (DIST d t b) i
        have hle1 := lenM_le (m := i + 1) (by omega)
        have hle2 := lenM_le (m := bst (DIST d t b) i) (by omega)
        have hq1 := DIST_in hd ht b (i + 1)
        have hq2 := DIST_in hd ht b (bst (DIST d t b) i)
        refine lv_aload_n hx hb dX3_bestByLooking_19 rfl (lv_at hl 0 rfl) ?_
        refine lv_iload_n hx hb dX3_bestByLooking_20 rfl (lv_at hl 1 rfl) ?_
        refine lv_iload hx hb dX3_bestByLooking_21 (lv_at hl 4 rfl) ?_
        refine kPi (va_runS (As := [.ref h, .int (nI (b)), .int (nI (i + 1))]) (rest := []) ⟨hx, hb, hml, hown, hts⟩ (c_X3_distanceBy h a1 a2 a3 a4 a5 a6 a7 a8 d t r k o bu kd pi lc sb b (i + 1) (by first | assumption | omega) (by first | assumption | omega) (by first | assumption | omega) (by first | assumption | omega) (hP.sub [0, 1, 2, 3, 4, 5, 6, 7, 8] rfl)) (va_cwS 3 hts gX3_bestByLooking_X3_distanceBy rfl rfl rfl (by decide +kernel) ⟨Nat.le_of_ble_eq_true rfl, Nat.le_of_ble_eq_true rfl⟩) (preS hC hS hLo) rfl rfl hl.1 rfl (lv_room (Nat.le_of_ble_eq_true rfl)) dX3_bestByLooking_23 ⟨Nat.zero_le _, Nat.zero_le _⟩) hS (fun locs hS => ?_)
        refine lv_istore (lv' := [(5, .int (iI (DIST d t b (i + 1)))), (0, .ref h), (1, .int (nI (b))), (2, .int (nI (bst (DIST d t b) i))), (3, .int (iI (DIST d t b (bst (DIST d t b) i)))), (4, .int (nI (i + 1)))]) hx hb dX3_bestByLooking_26 hl (by decide) rfl (fun ls hl => ?_)
        refine lv_iload hx hb dX3_bestByLooking_28 (lv_at hl 0 rfl) ?_
        refine lv_iload_n hx hb dX3_bestByLooking_30 rfl (lv_at hl 4 rfl) ?_
        refine lv_icmp_lt (tgt := 52) hx hb dX3_bestByLooking_31 (by decide) (fun c_4 => ?_) (fun c_4 => ?_)
        · have f_5 : (DIST d t b (i + 1)) < (DIST d t b (bst (DIST d t b) i)) := (c_lt (iI_toInt (by omega) (by omega)) (iI_toInt (by omega) (by omega))).mp c_4
          refine lv_iload hx hb dX3_bestByLooking_52 (lv_at hl 5 rfl) ?_
          refine lv_istore_n (lv' := [(2, .int (nI (i + 1))), (5, .int (iI (DIST d t b (i + 1)))), (0, .ref h), (1, .int (nI (b))), (3, .int (iI (DIST d t b (bst (DIST d t b) i)))), (4, .int (nI (i + 1)))]) hx hb dX3_bestByLooking_54 rfl hl (by decide) rfl (fun ls hl => ?_)
          refine lv_iload hx hb dX3_bestByLooking_55 (lv_at hl 1 rfl) ?_
          refine lv_istore_n (lv' := [(3, .int (iI (DIST d t b (i + 1)))), (2, .int (nI (i + 1))), (5, .int (iI (DIST d t b (i + 1)))), (0, .ref h), (1, .int (nI (b))), (4, .int (nI (i + 1)))]) hx hb dX3_bestByLooking_57 rfl hl (by decide) rfl (fun ls hl => ?_)
          refine lv_iinc (v := nI ((i + 1) + 1)) (lv' := [(4, .int (nI ((i + 1) + 1))), (3, .int (iI (DIST d t b (i + 1)))), (2, .int (nI (i + 1))), (5, .int (iI (DIST d t b (i + 1)))), (0, .ref h), (1, .int (nI (b)))]) hx hb dX3_bestByLooking_58 hl (k := 5) rfl (inc_p (i + 1) 1) (by decide) rfl (fun ls hl => ?_)
          refine lv_goto (tgt := 12) hx hb dX3_bestByLooking_61 (by decide) ?_
          exact ih_12 (i + 1) (by omega) (by omega) locs ls hS (lv_sub hl [4, 5, 2, 1, 0] ((lvc rfl (lvc rfl (lvc (congrArg Value.int (congrArg nI ((bst_y (Or.inl (by omega))).symm))) (lvc (congrArg Value.int (congrArg iI (congrArg (DIST d t b) ((bst_y (Or.inl (by omega))).symm)))) (lvc rfl rfl)))))))
        · have f_6 : ¬ (DIST d t b (i + 1)) < (DIST d t b (bst (DIST d t b) i)) := fun z => c_4 ((c_lt (iI_toInt (by omega) (by omega)) (iI_toInt (by omega) (by omega))).mpr z)
          refine lv_iload hx hb dX3_bestByLooking_34 (lv_at hl 0 rfl) ?_
          refine lv_iload_n hx hb dX3_bestByLooking_36 rfl (lv_at hl 4 rfl) ?_
          refine lv_icmp_ne (tgt := 58) hx hb dX3_bestByLooking_37 (by decide) (fun c_7 => ?_) (fun c_7 => ?_)
          · have f_8 : ¬ (DIST d t b (i + 1)) = (DIST d t b (bst (DIST d t b) i)) := fun z => c_7 ((c_eq (iI_toInt (by omega) (by omega)) (iI_toInt (by omega) (by omega))).mpr z)
            refine lv_iinc (v := nI ((i + 1) + 1)) (lv' := [(4, .int (nI ((i + 1) + 1))), (5, .int (iI (DIST d t b (i + 1)))), (0, .ref h), (1, .int (nI (b))), (2, .int (nI (bst (DIST d t b) i))), (3, .int (iI (DIST d t b (bst (DIST d t b) i))))]) hx hb dX3_bestByLooking_58 hl (k := 5) rfl (inc_p (i + 1) 1) (by decide) rfl (fun ls hl => ?_)
            refine lv_goto (tgt := 12) hx hb dX3_bestByLooking_61 (by decide) ?_
            exact ih_12 (i + 1) (by omega) (by omega) locs ls hS (lv_sub hl [2, 3, 4, 5, 0] ((lvc rfl (lvc rfl (lvc (congrArg Value.int (congrArg nI ((bst_n (by omega)).symm))) (lvc (congrArg Value.int (congrArg iI (congrArg (DIST d t b) ((bst_n (by omega)).symm)))) (lvc rfl rfl)))))))
          · have f_9 : (DIST d t b (i + 1)) = (DIST d t b (bst (DIST d t b) i)) := (c_eq (iI_toInt (by omega) (by omega)) (iI_toInt (by omega) (by omega))).mp c_7
            refine lv_iload hx hb dX3_bestByLooking_40 (lv_at hl 5 rfl) ?_
            refine kPi (va_runS (As := [.int (nI (i + 1))]) (rest := []) ⟨hx, hb, hml, hown, hts⟩ (c_X3_lengthOf (i + 1) (by first | assumption | omega)) (va_cwS 1 hts gX3_bestByLooking_X3_lengthOf rfl rfl rfl (by decide +kernel) ⟨Nat.le_of_ble_eq_true rfl, Nat.le_of_ble_eq_true rfl⟩) (preS hC hS hLo) rfl rfl hl.1 rfl (lv_room (Nat.le_of_ble_eq_true rfl)) dX3_bestByLooking_42 ⟨Nat.zero_le _, Nat.zero_le _⟩) hS (fun locs hS => ?_)
            refine lv_iload_n hx hb dX3_bestByLooking_45 rfl (lv_at hl 3 rfl) ?_
            refine kPi (va_runS (As := [.int (nI (bst (DIST d t b) i))]) (rest := [.int (nI (lenM (i + 1)))]) ⟨hx, hb, hml, hown, hts⟩ (c_X3_lengthOf (bst (DIST d t b) i) (by first | assumption | omega)) (va_cwS 1 hts gX3_bestByLooking_X3_lengthOf rfl rfl rfl (by decide +kernel) ⟨Nat.le_of_ble_eq_true rfl, Nat.le_of_ble_eq_true rfl⟩) (preS hC hS hLo) rfl rfl hl.1 rfl (lv_room (Nat.le_of_ble_eq_true rfl)) dX3_bestByLooking_46 ⟨Nat.zero_le _, Nat.zero_le _⟩) hS (fun locs hS => ?_)
            refine lv_icmp_ge (tgt := 58) hx hb dX3_bestByLooking_49 (by decide) (fun c_10 => ?_) (fun c_10 => ?_)
            · have f_11 : ((lenM (bst (DIST d t b) i) : Nat) : Int) ≤ ((lenM (i + 1) : Nat) : Int) := (c_le (nI_toInt (n := lenM (bst (DIST d t b) i)) (by omega)) (nI_toInt (n := lenM (i + 1)) (by omega))).mp c_10
              refine lv_iinc (v := nI ((i + 1) + 1)) (lv' := [(4, .int (nI ((i + 1) + 1))), (5, .int (iI (DIST d t b (i + 1)))), (0, .ref h), (1, .int (nI (b))), (2, .int (nI (bst (DIST d t b) i))), (3, .int (iI (DIST d t b (bst (DIST d t b) i))))]) hx hb dX3_bestByLooking_58 hl (k := 5) rfl (inc_p (i + 1) 1) (by decide) rfl (fun ls hl => ?_)
              refine lv_goto (tgt := 12) hx hb dX3_bestByLooking_61 (by decide) ?_
              exact ih_12 (i + 1) (by omega) (by omega) locs ls hS (lv_sub hl [2, 3, 4, 5, 0] ((lvc rfl (lvc rfl (lvc (congrArg Value.int (congrArg nI ((bst_n (by omega)).symm))) (lvc (congrArg Value.int (congrArg iI (congrArg (DIST d t b) ((bst_n (by omega)).symm)))) (lvc rfl rfl)))))))
            · have f_12 : ¬ ((lenM (bst (DIST d t b) i) : Nat) : Int) ≤ ((lenM (i + 1) : Nat) : Int) := fun z => c_10 ((c_le (nI_toInt (n := lenM (bst (DIST d t b) i)) (by omega)) (nI_toInt (n := lenM (i + 1)) (by omega))).mpr z)
              refine lv_iload hx hb dX3_bestByLooking_52 (lv_at hl 5 rfl) ?_
              refine lv_istore_n (lv' := [(2, .int (nI (i + 1))), (5, .int (iI (DIST d t b (i + 1)))), (0, .ref h), (1, .int (nI (b))), (3, .int (iI (DIST d t b (bst (DIST d t b) i)))), (4, .int (nI (i + 1)))]) hx hb dX3_bestByLooking_54 rfl hl (by decide) rfl (fun ls hl => ?_)
              refine lv_iload hx hb dX3_bestByLooking_55 (lv_at hl 1 rfl) ?_
              refine lv_istore_n (lv' := [(3, .int (iI (DIST d t b (i + 1)))), (2, .int (nI (i + 1))), (5, .int (iI (DIST d t b (i + 1)))), (0, .ref h), (1, .int (nI (b))), (4, .int (nI (i + 1)))]) hx hb dX3_bestByLooking_57 rfl hl (by decide) rfl (fun ls hl => ?_)
              refine lv_iinc (v := nI ((i + 1) + 1)) (lv' := [(4, .int (nI ((i + 1) + 1))), (3, .int (iI (DIST d t b (i + 1)))), (2, .int (nI (i + 1))), (5, .int (iI (DIST d t b (i + 1)))), (0, .ref h), (1, .int (nI (b)))]) hx hb dX3_bestByLooking_58 hl (k := 5) rfl (inc_p (i + 1) 1) (by decide) rfl (fun ls hl => ?_)
              refine lv_goto (tgt := 12) hx hb dX3_bestByLooking_61 (by decide) ?_
              exact ih_12 (i + 1) (by omega) (by omega) locs ls hS (lv_sub hl [4, 5, 2, 1, 0] ((lvc rfl (lvc rfl (lvc (congrArg Value.int (congrArg nI ((bst_y (Or.inr ⟨by omega, by omega⟩)).symm))) (lvc (congrArg Value.int (congrArg iI (congrArg (DIST d t b) ((bst_y (Or.inr ⟨by omega, by omega⟩)).symm)))) (lvc rfl rfl)))))))
  exact L_12 (24 + 1) 0 (Nat.lt_succ_self _) (by omega) locs ls hS (lv_sub hl [3, 4, 2, 1, 0] (lvc rfl (lvc rfl (lvc (congrArg Value.int (rfl)) (lvc (congrArg Value.int (rfl)) (lvc (congrArg Value.int (rfl)) rfl))))))

set_option maxHeartbeats 4000000 in
set_option maxRecDepth 100000 in
theorem c_X3_distanceUpTo {l : Launch} {G : GT} {H0 : Heap} (lim : Int) (h a1 a2 a3 a4 a5 a6 a7 a8 : Nat) (d t r : Nat → Int) (k o : Nat → Nat) (bu kd pi lc sb : Nat) (b mv : Nat) (hd : R15 d) (ht : R15 t) (hb4 : b < 4) (hm : mv < 25) (hlim : 0 ≤ lim ∧ lim ≤ 241) (hP0 : PP G ([(h, .inr (6, [.ref a1, .ref a3, .ref a5, .ref a7, .ref a8, .int (nI (bu)), .int (nI (kd)), .int (nI (pi)), .int (nI (lc)), .int (nI (sb))])), (a1, .inr (3, [.ref a2])), (a2, .inl (cI G, 64, .inl (fun z9 => iI (d z9)))), (a3, .inr (3, [.ref a4])), (a4, .inl (cI G, 64, .inl (fun z9 => iI (t z9)))), (a5, .inr (3, [.ref a6])), (a6, .inl (cI G, 64, .inl (fun z9 => iI (r z9)))), (a7, .inl (cI G, 4, .inl (fun z9 => nI (k z9)))), (a8, .inl (cI G, 4, .inl (fun z9 => nI (o z9))))]) H0) : Met l yX3_distanceUpTo wsX3_distanceUpTo ({ frames := 1, cells := 0, slots := 0, locals := 25 } : Room) (pcG G [.int (iI (lim)), .ref h, .int (nI (b)), .int (nI (mv))] H0) (qPi (iI (utI (DT d t b mv) lim 16 0)) H0) 0 0 noF := by
  refine enter (cc := cX3_distanceUpTo) (maxL := 8) (ret := some .int) (own := RX3) (lv := [(0, .int (iI (lim))), (1, .ref h), (2, .int (nI (b))), (3, .int (nI (mv)))]) (by decide) rfl rfl rfl (Nat.le_of_ble_eq_true rfl) ?_
  intro pg ev s m below meth c hx hb hr hts hown hlocks hml hnm hH hC ls hl
  subst hH
  have hLo : ∀ q, noF q → lo G q := fun _ h => h.elim
  have hS : va_S noF s.heap s.heap [] := va_S.rf
  generalize ([] : List Loc) = locs at hS ⊢
  have hP := hP0
  refine lv_iconst (v := nI (0)) hx hb dX3_distanceUpTo_0 (by decide) ?_
  refine lv_istore (lv' := [(4, .int (nI (0))), (0, .int (iI (lim))), (1, .ref h), (2, .int (nI (b))), (3, .int (nI (mv)))]) hx hb dX3_distanceUpTo_1 hl (by decide) rfl (fun ls hl => ?_)
  have hmd := mdn_in hm
  have hmr := mrt_in mv
  refine lv_iconst (v := nI (0)) hx hb dX3_distanceUpTo_3 (by decide) ?_
  refine lv_istore (lv' := [(5, .int (nI (0))), (4, .int (nI (0))), (0, .int (iI (lim))), (1, .ref h), (2, .int (nI (b))), (3, .int (nI (mv)))]) hx hb dX3_distanceUpTo_4 hl (by decide) rfl (fun ls hl => ?_)
  have L_6 : ∀ (n_6 : Nat) (i : Nat), 16 - i < n_6 → i ≤ 16 → utI (DT d t b mv) lim 16 0 = utI (DT d t b mv) lim (16 - i) i → ∀ (locs : List Loc) (ls : Array Slot), va_S noF s.heap s.heap locs → lv_has ls 8 [(0, .int (iI (lim))), (1, .ref h), (2, .int (nI (b))), (3, .int (nI (mv))), (4, .int (iI (sZ (DT d t b mv) i))), (5, .int (nI (i)))] → W pg l ev ({ frames := 1, cells := 0, slots := 0, locals := 25 } : Room) s m (([.int (iI (lim)), .ref h, .int (nI (b)), .int (nI (mv))] : List Value).toArray) below meth c s.heap locs 0 0 (MQ below (qPi (iI (utI (DT d t b mv) lim 16 0)) s.heap) (([.int (iI (lim)), .ref h, .int (nI (b)), .int (nI (mv))] : List Value).toArray) s 0 0 noF) (F0 m 6 ls []) := by
    intro n_6
    induction n_6 with
    | zero => intro i hn; exact absurd hn (Nat.not_lt_zero _)
    | succ n_6 ih_6 =>
      intro i hn_6 hi hu locs ls hS hl
      refine lv_iload hx hb dX3_distanceUpTo_6 (lv_at hl 5 rfl) ?_
      refine lv_bipush (v := nI (16)) hx hb dX3_distanceUpTo_8 (by decide) ?_
      refine lv_icmp_ge (tgt := 72) hx hb dX3_distanceUpTo_10 (by decide) (fun c_1 => ?_) (fun c_1 => ?_)
      · have f_2 : (16 : Int) ≤ ((i : Nat) : Int) := (c_le (nI_toInt (n := 16) (by omega)) (nI_toInt (n := i) (by omega))).mp c_1
        refine lv_iload hx hb dX3_distanceUpTo_72 (lv_at hl 4 rfl) ?_
        exact xPi hx hb hr hlocks hS (by exact (by first | exact congrArg iI (hu.trans (utI_e (by omega))).symm | exact congrArg iI (hu.trans (utI_x (by omega))).symm)) (by exact rfl) dX3_distanceUpTo_74
      · have f_3 : ¬ (16 : Int) ≤ ((i : Nat) : Int) := fun z => c_1 ((c_le (nI_toInt (n := 16) (by omega)) (nI_toInt (n := i) (by omega))).mpr z)
        have hq := DS_in hd ht b mv hi
        refine lv_iload hx hb dX3_distanceUpTo_13 (lv_at hl 4 rfl) ?_
        refine lv_iload_n hx hb dX3_distanceUpTo_15 rfl (lv_at hl 0 rfl) ?_
        refine lv_icmp_ge (tgt := 72) hx hb dX3_distanceUpTo_16 (by decide) (fun c_4 => ?_) (fun c_4 => ?_)
        · have f_5 : (lim) ≤ (sZ (DT d t b mv) i) := (c_le (iI_toInt (by omega) (by omega)) (iI_toInt (by omega) (by omega))).mp c_4
          refine lv_iload hx hb dX3_distanceUpTo_72 (lv_at hl 4 rfl) ?_
          exact xPi hx hb hr hlocks hS (by exact (by first | exact congrArg iI (hu.trans (utI_e (by omega))).symm | exact congrArg iI (hu.trans (utI_x (by omega))).symm)) (by exact rfl) dX3_distanceUpTo_74
        · have f_6 : ¬ (lim) ≤ (sZ (DT d t b mv) i) := fun z => c_4 ((c_le (iI_toInt (by omega) (by omega)) (iI_toInt (by omega) (by omega))).mpr z)
          refine lv_iload_n hx hb dX3_distanceUpTo_19 rfl (lv_at hl 2 rfl) ?_
          refine lv_iload hx hb dX3_distanceUpTo_20 (lv_at hl 5 rfl) ?_
          refine kPi (va_runSN (As := [.int (nI (b)), .int (nI (i))]) (rest := []) ⟨hx, hb, hml, hown, hts⟩ (c_X8_pixelIn b i (by first | assumption | omega) (by first | assumption | omega)) ⟨va_cnB 2 hts gX3_distanceUpTo_X8_pixelIn_n16 rfl rfl rfl (hC.nest 40 rfl) (hts (.initialized RX8) (by decide +kernel)) (by decide +kernel) ⟨Nat.le_of_ble_eq_true rfl, Nat.le_of_ble_eq_true rfl⟩, (hts (.static yX8_pixelIn) (by decide +kernel)), trivial⟩ (preS hC hS hLo) rfl rfl hl.1 rfl (lv_room (Nat.le_of_ble_eq_true rfl)) dX3_distanceUpTo_22 ⟨Nat.zero_le _, Nat.zero_le _⟩) hS (fun locs hS => ?_)
          refine lv_istore (lv' := [(6, .int (nI (px b i))), (0, .int (iI (lim))), (1, .ref h), (2, .int (nI (b))), (3, .int (nI (mv))), (4, .int (iI (sZ (DT d t b mv) i))), (5, .int (nI (i)))]) hx hb dX3_distanceUpTo_25 hl (by decide) rfl (fun ls hl => ?_)
          have hpx := px_lt hb4 (by omega : i < 16)
          refine lv_aload_n hx hb dX3_distanceUpTo_27 rfl (lv_at hl 2 rfl) ?_
          refine va_getN (D := gD G) (cl := vwCl) (tys := tyl G) (ci := 6) (v := .ref a3) (C := RX7) (T := TX7) (N := 10) (host := "MotionPost") (ref := "MotionPost$State") hx hb hts (by decide +kernel) hown hC.K hP 0 rfl rfl 1 (by decide) (hC.nestW 5 rfl rfl) (fun _ h9 => h9) rfl dX3_distanceUpTo_28 ?_
          refine lv_iload hx hb dX3_distanceUpTo_31 (lv_at hl 0 rfl) ?_
          refine lv_iload_n hx hb dX3_distanceUpTo_33 rfl (lv_at hl 4 rfl) ?_
          refine kPi (va_runSN (As := [.int (nI (mv))]) (rest := [.int (nI (px b i)), .ref a3]) ⟨hx, hb, hml, hown, hts⟩ (c_X8_downOf mv (by first | assumption | omega)) ⟨va_cnB 1 hts gX3_distanceUpTo_X8_downOf_n9 rfl rfl rfl (hC.nest 38 rfl) (hts (.initialized RX8) (by decide +kernel)) (by decide +kernel) ⟨Nat.le_of_ble_eq_true rfl, Nat.le_of_ble_eq_true rfl⟩, (hts (.static yX8_downOf) (by decide +kernel)), trivial⟩ (preS hC hS hLo) rfl rfl hl.1 rfl (lv_room (Nat.le_of_ble_eq_true rfl)) dX3_distanceUpTo_34 ⟨Nat.zero_le _, Nat.zero_le _⟩) hS (fun locs hS => ?_)
          refine lv_iload_n hx hb dX3_distanceUpTo_37 rfl (lv_at hl 4 rfl) ?_
          refine kPi (va_runSN (As := [.int (nI (mv))]) (rest := [.int (iI (mdn mv)), .int (nI (px b i)), .ref a3]) ⟨hx, hb, hml, hown, hts⟩ (c_X8_rightOf mv (by first | assumption | omega)) ⟨va_cnB 1 hts gX3_distanceUpTo_X8_rightOf_n13 rfl rfl rfl (hC.nest 39 rfl) (hts (.initialized RX8) (by decide +kernel)) (by decide +kernel) ⟨Nat.le_of_ble_eq_true rfl, Nat.le_of_ble_eq_true rfl⟩, (hts (.static yX8_rightOf) (by decide +kernel)), trivial⟩ (preS hC hS hLo) rfl rfl hl.1 rfl (lv_room (Nat.le_of_ble_eq_true rfl)) dX3_distanceUpTo_38 ⟨Nat.zero_le _, Nat.zero_le _⟩) hS (fun locs hS => ?_)
          refine kPi (va_runVN (As := [.int (nI (px b i)), .int (iI (mdn mv)), .int (iI (mrt mv))]) (rest := []) ⟨hx, hb, hml, hown, hts⟩ (c_X4_movedValueAt a3 a4 t (px b i) (mdn mv) (mrt mv) (by first | assumption | omega) (by first | assumption | omega) (by first | assumption | omega) (hP.sub [3, 4] rfl)) ⟨va_cnB 3 hts gX3_distanceUpTo_X4_movedValueAt_n34 rfl rfl rfl (hC.nest 42 rfl) (hts (.initialized RX4) (by decide +kernel)) (by decide +kernel) ⟨Nat.le_of_ble_eq_true rfl, Nat.le_of_ble_eq_true rfl⟩, (hts (.instanceMethod yX4_movedValueAt) (by decide +kernel)), (hts (.selects RX4 yX4_movedValueAt yX4_movedValueAt) (by decide +kernel))⟩ (preV hC hS hLo hP (ci := 3) (q0 := 3) rfl rfl) rfl rfl hl.1 rfl (lv_room (Nat.le_of_ble_eq_true rfl)) dX3_distanceUpTo_41 ⟨Nat.zero_le _, Nat.zero_le _⟩) hS (fun locs hS => ?_)
          refine lv_istore (lv' := [(7, .int (iI (t (fr (px b i) (mdn mv) (mrt mv))))), (6, .int (nI (px b i))), (0, .int (iI (lim))), (1, .ref h), (2, .int (nI (b))), (3, .int (nI (mv))), (4, .int (iI (sZ (DT d t b mv) i))), (5, .int (nI (i)))]) hx hb dX3_distanceUpTo_44 hl (by decide) rfl (fun ls hl => ?_)
          refine lv_iload hx hb dX3_distanceUpTo_46 (lv_at hl 6 rfl) ?_
          refine lv_aload_n hx hb dX3_distanceUpTo_48 rfl (lv_at hl 3 rfl) ?_
          refine va_getN (D := gD G) (cl := vwCl) (tys := tyl G) (ci := 6) (v := .ref a1) (C := RX7) (T := TX7) (N := 10) (host := "MotionPost") (ref := "MotionPost$State") hx hb hts (by decide +kernel) hown hC.K hP 0 rfl rfl 0 (by decide) (hC.nestW 3 rfl rfl) (fun _ h9 => h9) rfl dX3_distanceUpTo_49 ?_
          refine lv_iload hx hb dX3_distanceUpTo_52 (lv_at hl 1 rfl) ?_
          refine kPi (va_runVN (As := [.int (nI (px b i))]) (rest := [.int (iI (sZ (DT d t b mv) i))]) ⟨hx, hb, hml, hown, hts⟩ (c_X4_valueAt a1 a2 d (px b i) (by first | assumption | omega) (hP.sub [1, 2] rfl)) ⟨va_cnB 1 hts gX3_distanceUpTo_X4_valueAt_n26 rfl rfl rfl (hC.nest 41 rfl) (hts (.initialized RX4) (by decide +kernel)) (by decide +kernel) ⟨Nat.le_of_ble_eq_true rfl, Nat.le_of_ble_eq_true rfl⟩, (hts (.instanceMethod yX4_valueAt) (by decide +kernel)), (hts (.selects RX4 yX4_valueAt yX4_valueAt) (by decide +kernel))⟩ (preV hC hS hLo hP (ci := 3) (q0 := 1) rfl rfl) rfl rfl hl.1 rfl (lv_room (Nat.le_of_ble_eq_true rfl)) dX3_distanceUpTo_54 ⟨Nat.zero_le _, Nat.zero_le _⟩) hS (fun locs hS => ?_)
          have hb1 := hd (px b i)
          have hb2 := ht (fr (px b i) (mdn mv) (mrt mv))
          refine lv_iload hx hb dX3_distanceUpTo_57 (lv_at hl 0 rfl) ?_
          refine gSub (z := iI ((d (px b i)) - (t (fr (px b i) (mdn mv) (mrt mv))))) hx hb dX3_distanceUpTo_59 (z_sub rfl rfl) ?_
          refine va_mabs hx hb (hml.trans hl.1.symm) hown (hts (.methodLink RX3 38 Lib.Math.abs.name) (by decide +kernel)) (hts (.static Lib.Math.abs.name) (by decide +kernel)) (hts (.initialized "java/lang/Math") (by decide +kernel)) (hts (.code Lib.Math.abs.name Lib.Math.abs.code 1 (some .int)) (by decide +kernel)) (Nat.le_of_ble_eq_true rfl) (Nat.le_of_ble_eq_true rfl) (Nat.zero_le _) (Nat.zero_le _) dX3_distanceUpTo_60 ?_
          refine topE (v' := iI ((Int.natAbs ((d (px b i)) - (t (fr (px b i) (mdn mv) (mrt mv)))) : Int))) (ab_z (by omega) (by omega)) ?_
          refine gAdd (z := iI ((sZ (DT d t b mv) i) + ((Int.natAbs ((d (px b i)) - (t (fr (px b i) (mdn mv) (mrt mv)))) : Int)))) hx hb dX3_distanceUpTo_63 (z_add rfl rfl) ?_
          refine lv_istore (lv' := [(4, .int (iI ((sZ (DT d t b mv) i) + ((Int.natAbs ((d (px b i)) - (t (fr (px b i) (mdn mv) (mrt mv)))) : Int))))), (7, .int (iI (t (fr (px b i) (mdn mv) (mrt mv))))), (6, .int (nI (px b i))), (0, .int (iI (lim))), (1, .ref h), (2, .int (nI (b))), (3, .int (nI (mv))), (5, .int (nI (i)))]) hx hb dX3_distanceUpTo_64 hl (by decide) rfl (fun ls hl => ?_)
          refine lv_iinc (v := nI (i + 1)) (lv' := [(5, .int (nI (i + 1))), (4, .int (iI ((sZ (DT d t b mv) i) + ((Int.natAbs ((d (px b i)) - (t (fr (px b i) (mdn mv) (mrt mv)))) : Int))))), (7, .int (iI (t (fr (px b i) (mdn mv) (mrt mv))))), (6, .int (nI (px b i))), (0, .int (iI (lim))), (1, .ref h), (2, .int (nI (b))), (3, .int (nI (mv)))]) hx hb dX3_distanceUpTo_66 hl (k := 7) rfl (inc_p i 1) (by decide) rfl (fun ls hl => ?_)
          refine lv_goto (tgt := 6) hx hb dX3_distanceUpTo_69 (by decide) ?_
          exact ih_6 (i + 1) (by omega) (by omega) (hu.trans (utI_s (by omega) (by omega))) locs ls hS (lv_sub hl [4, 5, 6, 7, 1, 0] ((lvc rfl (lvc rfl (lvc rfl (lvc rfl (lvc (congrArg Value.int (rfl)) (lvc rfl rfl))))))))
  exact L_6 (16 + 1) 0 (Nat.lt_succ_self _) (by omega) rfl locs ls hS (lv_sub hl [2, 3, 4, 5, 1, 0] (lvc rfl (lvc rfl (lvc rfl (lvc rfl (lvc (congrArg Value.int (rfl)) (lvc rfl rfl)))))))

set_option maxHeartbeats 4000000 in
set_option maxRecDepth 100000 in
theorem c_X3_bestByStopping {l : Launch} {G : GT} {H0 : Heap} (h a1 a2 a3 a4 a5 a6 a7 a8 : Nat) (d t r : Nat → Int) (k o : Nat → Nat) (bu kd pi lc sb : Nat) (b : Nat) (hd : R15 d) (ht : R15 t) (hb4 : b < 4) (hP0 : PP G ([(h, .inr (6, [.ref a1, .ref a3, .ref a5, .ref a7, .ref a8, .int (nI (bu)), .int (nI (kd)), .int (nI (pi)), .int (nI (lc)), .int (nI (sb))])), (a1, .inr (3, [.ref a2])), (a2, .inl (cI G, 64, .inl (fun z9 => iI (d z9)))), (a3, .inr (3, [.ref a4])), (a4, .inl (cI G, 64, .inl (fun z9 => iI (t z9)))), (a5, .inr (3, [.ref a6])), (a6, .inl (cI G, 64, .inl (fun z9 => iI (r z9)))), (a7, .inl (cI G, 4, .inl (fun z9 => nI (k z9)))), (a8, .inl (cI G, 4, .inl (fun z9 => nI (o z9))))]) H0) : Met l yX3_bestByStopping wsX3_bestByStopping ({ frames := 2, cells := 0, slots := 0, locals := 52 } : Room) (pcG G [.ref h, .int (nI (b))] H0) (qPi (nI ((bsS d t b 25).1)) H0) 0 0 noF := by
  refine enter (cc := cX3_bestByStopping) (maxL := 9) (ret := some .int) (own := RX3) (lv := [(0, .ref h), (1, .int (nI (b)))]) (by decide) rfl rfl rfl (Nat.le_of_ble_eq_true rfl) ?_
  intro pg ev s m below meth c hx hb hr hts hown hlocks hml hnm hH hC ls hl
  subst hH
  have hLo : ∀ q, noF q → lo G q := fun _ h => h.elim
  have hS : va_S noF s.heap s.heap [] := va_S.rf
  generalize ([] : List Loc) = locs at hS ⊢
  have hP := hP0
  refine lv_bipush (v := nI (12)) hx hb dX3_bestByStopping_0 (by decide) ?_
  refine lv_istore_n (lv' := [(2, .int (nI (12))), (0, .ref h), (1, .int (nI (b)))]) hx hb dX3_bestByStopping_2 rfl hl (by decide) rfl (fun ls hl => ?_)
  refine lv_sipush (v := nI (241)) hx hb dX3_bestByStopping_3 (by decide) ?_
  refine lv_istore_n (lv' := [(3, .int (nI (241))), (2, .int (nI (12))), (0, .ref h), (1, .int (nI (b)))]) hx hb dX3_bestByStopping_6 rfl hl (by decide) rfl (fun ls hl => ?_)
  obtain ⟨tS, hZ, hT⟩ := hC.2.2.2.2.2.2
  refine va_gets hx hb (hZ.narrow hLo) hS hown (hts (.fieldLink RX3 52 "MotionPost$Moves" "SHORT_FIRST" "[I") (by decide +kernel)) (fun _ h9 => h9) dX3_bestByStopping_7 ?_
  refine lv_astore (lv' := [(4, .ref tS), (3, .int (nI (241))), (2, .int (nI (12))), (0, .ref h), (1, .int (nI (b)))]) hx hb dX3_bestByStopping_10 hl (by decide) rfl (fun ls hl => ?_)
  refine lv_aload hx hb dX3_bestByStopping_12 (lv_at hl 0 rfl) ?_
  refine va_tlen (v := nI 25) hx hb (hT.narrow hLo) hS rfl dX3_bestByStopping_14 ?_
  refine lv_istore (lv' := [(5, .int (nI (25))), (4, .ref tS), (3, .int (nI (241))), (2, .int (nI (12))), (0, .ref h), (1, .int (nI (b)))]) hx hb dX3_bestByStopping_15 hl (by decide) rfl (fun ls hl => ?_)
  refine lv_iconst (v := nI (0)) hx hb dX3_bestByStopping_17 (by decide) ?_
  refine lv_istore (lv' := [(6, .int (nI (0))), (5, .int (nI (25))), (4, .ref tS), (3, .int (nI (241))), (2, .int (nI (12))), (0, .ref h), (1, .int (nI (b)))]) hx hb dX3_bestByStopping_18 hl (by decide) rfl (fun ls hl => ?_)
  have L_20 : ∀ (n_20 : Nat) (i : Nat), 25 - i < n_20 → i ≤ 25 → ∀ (locs : List Loc) (ls : Array Slot), va_S noF s.heap s.heap locs → lv_has ls 9 [(0, .ref h), (1, .int (nI (b))), (2, .int (nI ((bsS d t b i).1))), (3, .int (iI ((bsS d t b i).2))), (4, .ref tS), (5, .int (nI (25))), (6, .int (nI (i)))] → W pg l ev ({ frames := 2, cells := 0, slots := 0, locals := 52 } : Room) s m (([.ref h, .int (nI (b))] : List Value).toArray) below meth c s.heap locs 0 0 (MQ below (qPi (nI ((bsS d t b 25).1)) s.heap) (([.ref h, .int (nI (b))] : List Value).toArray) s 0 0 noF) (F0 m 20 ls []) := by
    intro n_20
    induction n_20 with
    | zero => intro i hn; exact absurd hn (Nat.not_lt_zero _)
    | succ n_20 ih_20 =>
      intro i hn_20 hi locs ls hS hl
      refine lv_iload hx hb dX3_bestByStopping_20 (lv_at hl 6 rfl) ?_
      refine lv_iload hx hb dX3_bestByStopping_22 (lv_at hl 5 rfl) ?_
      refine lv_icmp_ge (tgt := 62) hx hb dX3_bestByStopping_24 (by decide) (fun c_1 => ?_) (fun c_1 => ?_)
      · have f_2 : (25 : Int) ≤ ((i : Nat) : Int) := (c_le (nI_toInt (n := 25) (by omega)) (nI_toInt (n := i) (by omega))).mp c_1
        have ei : i = 25 := by omega
        subst ei
        refine lv_iload_n hx hb dX3_bestByStopping_62 rfl (lv_at hl 2 rfl) ?_
        exact xPi hx hb hr hlocks hS (by exact rfl) (by exact rfl) dX3_bestByStopping_63
      · have f_3 : ¬ (25 : Int) ≤ ((i : Nat) : Int) := fun z => c_1 ((c_le (nI_toInt (n := 25) (by omega)) (nI_toInt (n := i) (by omega))).mpr z)
        have hsl := shortN_lt (k := i) (by omega)
        have hbi := bsS_in hd ht b i hi
        have hui := utI_in hd ht b (shortN i) (bsS d t b i).2 16 0 (by omega)
        refine lv_aload hx hb dX3_bestByStopping_27 (lv_at hl 4 rfl) ?_
        refine lv_iload hx hb dX3_bestByStopping_29 (lv_at hl 6 rfl) ?_
        refine va_ti (v := .int (nI (shortN (i)))) hx hb (hT.narrow hLo) hS (ix_in (j := i) rfl (by omega) (by decide)) (short_v (by omega)) dX3_bestByStopping_31 ?_
        refine lv_istore (lv' := [(7, .int (nI (shortN i))), (0, .ref h), (1, .int (nI (b))), (2, .int (nI ((bsS d t b i).1))), (3, .int (iI ((bsS d t b i).2))), (4, .ref tS), (5, .int (nI (25))), (6, .int (nI (i)))]) hx hb dX3_bestByStopping_32 hl (by decide) rfl (fun ls hl => ?_)
        refine lv_iload_n hx hb dX3_bestByStopping_34 rfl (lv_at hl 4 rfl) ?_
        refine lv_aload_n hx hb dX3_bestByStopping_35 rfl (lv_at hl 1 rfl) ?_
        refine lv_iload_n hx hb dX3_bestByStopping_36 rfl (lv_at hl 2 rfl) ?_
        refine lv_iload hx hb dX3_bestByStopping_37 (lv_at hl 0 rfl) ?_
        refine kPi (va_runS (As := [.int (iI ((bsS d t b i).2)), .ref h, .int (nI (b)), .int (nI (shortN i))]) (rest := []) ⟨hx, hb, hml, hown, hts⟩ (c_X3_distanceUpTo ((bsS d t b i).2) h a1 a2 a3 a4 a5 a6 a7 a8 d t r k o bu kd pi lc sb b (shortN i) (by first | assumption | omega) (by first | assumption | omega) (by first | assumption | omega) (by first | assumption | omega) (by first | assumption | omega) (hP.sub [0, 1, 2, 3, 4, 5, 6, 7, 8] rfl)) (va_cwS 4 hts gX3_bestByStopping_X3_distanceUpTo rfl rfl rfl (by decide +kernel) ⟨Nat.le_of_ble_eq_true rfl, Nat.le_of_ble_eq_true rfl⟩) (preS hC hS hLo) rfl rfl hl.1 rfl (lv_room (Nat.le_of_ble_eq_true rfl)) dX3_bestByStopping_39 ⟨Nat.zero_le _, Nat.zero_le _⟩) hS (fun locs hS => ?_)
        refine lv_istore (lv' := [(8, .int (iI (utI (DT d t b (shortN i)) ((bsS d t b i).2) 16 0))), (7, .int (nI (shortN i))), (0, .ref h), (1, .int (nI (b))), (2, .int (nI ((bsS d t b i).1))), (3, .int (iI ((bsS d t b i).2))), (4, .ref tS), (5, .int (nI (25))), (6, .int (nI (i)))]) hx hb dX3_bestByStopping_42 hl (by decide) rfl (fun ls hl => ?_)
        refine lv_iload hx hb dX3_bestByStopping_44 (lv_at hl 0 rfl) ?_
        refine lv_iload_n hx hb dX3_bestByStopping_46 rfl (lv_at hl 5 rfl) ?_
        refine lv_icmp_ge (tgt := 56) hx hb dX3_bestByStopping_47 (by decide) (fun c_4 => ?_) (fun c_4 => ?_)
        · have f_5 : ((bsS d t b i).2) ≤ (utI (DT d t b (shortN i)) ((bsS d t b i).2) 16 0) := (c_le (iI_toInt (by omega) (by omega)) (iI_toInt (by omega) (by omega))).mp c_4
          refine lv_iinc (v := nI (i + 1)) (lv' := [(6, .int (nI (i + 1))), (8, .int (iI (utI (DT d t b (shortN i)) ((bsS d t b i).2) 16 0))), (7, .int (nI (shortN i))), (0, .ref h), (1, .int (nI (b))), (2, .int (nI ((bsS d t b i).1))), (3, .int (iI ((bsS d t b i).2))), (4, .ref tS), (5, .int (nI (25)))]) hx hb dX3_bestByStopping_56 hl (k := 8) rfl (inc_p i 1) (by decide) rfl (fun ls hl => ?_)
          refine lv_goto (tgt := 20) hx hb dX3_bestByStopping_59 (by decide) ?_
          exact ih_20 (i + 1) (by omega) (by omega) locs ls hS (lv_sub hl [3, 4, 5, 6, 7, 8, 0] ((lvc rfl (lvc rfl (lvc (congrArg Value.int (congrArg nI (congrArg Prod.fst (bsS_n (by omega)).symm))) (lvc (congrArg Value.int (congrArg iI (congrArg Prod.snd (bsS_n (by omega)).symm))) (lvc rfl (lvc rfl (lvc rfl rfl)))))))))
        · have f_6 : ¬ ((bsS d t b i).2) ≤ (utI (DT d t b (shortN i)) ((bsS d t b i).2) 16 0) := fun z => c_4 ((c_le (iI_toInt (by omega) (by omega)) (iI_toInt (by omega) (by omega))).mpr z)
          refine lv_iload hx hb dX3_bestByStopping_50 (lv_at hl 1 rfl) ?_
          refine lv_istore_n (lv' := [(2, .int (nI (shortN i))), (8, .int (iI (utI (DT d t b (shortN i)) ((bsS d t b i).2) 16 0))), (7, .int (nI (shortN i))), (0, .ref h), (1, .int (nI (b))), (3, .int (iI ((bsS d t b i).2))), (4, .ref tS), (5, .int (nI (25))), (6, .int (nI (i)))]) hx hb dX3_bestByStopping_52 rfl hl (by decide) rfl (fun ls hl => ?_)
          refine lv_iload hx hb dX3_bestByStopping_53 (lv_at hl 1 rfl) ?_
          refine lv_istore_n (lv' := [(3, .int (iI (utI (DT d t b (shortN i)) ((bsS d t b i).2) 16 0))), (2, .int (nI (shortN i))), (8, .int (iI (utI (DT d t b (shortN i)) ((bsS d t b i).2) 16 0))), (7, .int (nI (shortN i))), (0, .ref h), (1, .int (nI (b))), (4, .ref tS), (5, .int (nI (25))), (6, .int (nI (i)))]) hx hb dX3_bestByStopping_55 rfl hl (by decide) rfl (fun ls hl => ?_)
          refine lv_iinc (v := nI (i + 1)) (lv' := [(6, .int (nI (i + 1))), (3, .int (iI (utI (DT d t b (shortN i)) ((bsS d t b i).2) 16 0))), (2, .int (nI (shortN i))), (8, .int (iI (utI (DT d t b (shortN i)) ((bsS d t b i).2) 16 0))), (7, .int (nI (shortN i))), (0, .ref h), (1, .int (nI (b))), (4, .ref tS), (5, .int (nI (25)))]) hx hb dX3_bestByStopping_56 hl (k := 8) rfl (inc_p i 1) (by decide) rfl (fun ls hl => ?_)
          refine lv_goto (tgt := 20) hx hb dX3_bestByStopping_59 (by decide) ?_
          exact ih_20 (i + 1) (by omega) (by omega) locs ls hS (lv_sub hl [5, 6, 2, 1, 7, 8, 0] ((lvc rfl (lvc rfl (lvc (congrArg Value.int (congrArg nI (congrArg Prod.fst (bsS_y (by omega)).symm))) (lvc (congrArg Value.int (congrArg iI (congrArg Prod.snd (bsS_y (by omega)).symm))) (lvc rfl (lvc rfl (lvc rfl rfl)))))))))
  exact L_20 (25 + 1) 0 (Nat.lt_succ_self _) (by omega) locs ls hS (lv_sub hl [5, 6, 4, 3, 2, 1, 0] (lvc rfl (lvc rfl (lvc (congrArg Value.int (rfl)) (lvc (congrArg Value.int (nI_i 241)) (lvc rfl (lvc rfl (lvc rfl rfl))))))))

set_option maxHeartbeats 4000000 in
set_option maxRecDepth 100000 in
theorem c_X3_countBest {l : Launch} {G : GT} {H0 : Heap} (h a1 a2 a3 a4 a5 a6 a7 a8 : Nat) (d t r : Nat → Int) (k o : Nat → Nat) (bu kd pi lc sb : Nat) (b : Nat) (hd : R15 d) (ht : R15 t) (hb4 : b < 4) (hP0 : PP G ([(h, .inr (6, [.ref a1, .ref a3, .ref a5, .ref a7, .ref a8, .int (nI (bu)), .int (nI (kd)), .int (nI (pi)), .int (nI (lc)), .int (nI (sb))])), (a1, .inr (3, [.ref a2])), (a2, .inl (cI G, 64, .inl (fun z9 => iI (d z9)))), (a3, .inr (3, [.ref a4])), (a4, .inl (cI G, 64, .inl (fun z9 => iI (t z9)))), (a5, .inr (3, [.ref a6])), (a6, .inl (cI G, 64, .inl (fun z9 => iI (r z9)))), (a7, .inl (cI G, 4, .inl (fun z9 => nI (k z9)))), (a8, .inl (cI G, 4, .inl (fun z9 => nI (o z9))))]) H0) : Met l yX3_countBest wsX3_countBest ({ frames := 2, cells := 0, slots := 0, locals := 52 } : Room) (pcG G [.ref h, .int (nI (b))] H0) (qPi (nI ((cnt (DIST d t b) 25).1)) H0) 0 0 noF := by
  refine enter (cc := cX3_countBest) (maxL := 6) (ret := some .int) (own := RX3) (lv := [(0, .ref h), (1, .int (nI (b)))]) (by decide) rfl rfl rfl (Nat.le_of_ble_eq_true rfl) ?_
  intro pg ev s m below meth c hx hb hr hts hown hlocks hml hnm hH hC ls hl
  subst hH
  have hLo : ∀ q, noF q → lo G q := fun _ h => h.elim
  have hS : va_S noF s.heap s.heap [] := va_S.rf
  generalize ([] : List Loc) = locs at hS ⊢
  have hP := hP0
  refine lv_iconst (v := nI (0)) hx hb dX3_countBest_0 (by decide) ?_
  refine lv_istore_n (lv' := [(2, .int (nI (0))), (0, .ref h), (1, .int (nI (b)))]) hx hb dX3_countBest_1 rfl hl (by decide) rfl (fun ls hl => ?_)
  refine lv_sipush (v := nI (241)) hx hb dX3_countBest_2 (by decide) ?_
  refine lv_istore_n (lv' := [(3, .int (nI (241))), (2, .int (nI (0))), (0, .ref h), (1, .int (nI (b)))]) hx hb dX3_countBest_5 rfl hl (by decide) rfl (fun ls hl => ?_)
  refine lv_iconst (v := nI (0)) hx hb dX3_countBest_6 (by decide) ?_
  refine lv_istore (lv' := [(4, .int (nI (0))), (3, .int (nI (241))), (2, .int (nI (0))), (0, .ref h), (1, .int (nI (b)))]) hx hb dX3_countBest_7 hl (by decide) rfl (fun ls hl => ?_)
  have L_9 : ∀ (n_9 : Nat) (i : Nat), 25 - i < n_9 → i ≤ 25 → ∀ (locs : List Loc) (ls : Array Slot), va_S noF s.heap s.heap locs → lv_has ls 6 [(0, .ref h), (1, .int (nI (b))), (2, .int (nI ((cnt (DIST d t b) i).1))), (3, .int (iI ((cnt (DIST d t b) i).2))), (4, .int (nI (i)))] → W pg l ev ({ frames := 2, cells := 0, slots := 0, locals := 52 } : Room) s m (([.ref h, .int (nI (b))] : List Value).toArray) below meth c s.heap locs 0 0 (MQ below (qPi (nI ((cnt (DIST d t b) 25).1)) s.heap) (([.ref h, .int (nI (b))] : List Value).toArray) s 0 0 noF) (F0 m 9 ls []) := by
    intro n_9
    induction n_9 with
    | zero => intro i hn; exact absurd hn (Nat.not_lt_zero _)
    | succ n_9 ih_9 =>
      intro i hn_9 hi locs ls hS hl
      refine lv_iload hx hb dX3_countBest_9 (lv_at hl 4 rfl) ?_
      refine lv_bipush (v := nI (25)) hx hb dX3_countBest_11 (by decide) ?_
      refine lv_icmp_ge (tgt := 54) hx hb dX3_countBest_13 (by decide) (fun c_1 => ?_) (fun c_1 => ?_)
      · have f_2 : (25 : Int) ≤ ((i : Nat) : Int) := (c_le (nI_toInt (n := 25) (by omega)) (nI_toInt (n := i) (by omega))).mp c_1
        have ei : i = 25 := by omega
        subst ei
        refine lv_iload_n hx hb dX3_countBest_54 rfl (lv_at hl 2 rfl) ?_
        exact xPi hx hb hr hlocks hS (by exact rfl) (by exact rfl) dX3_countBest_55
      · have f_3 : ¬ (25 : Int) ≤ ((i : Nat) : Int) := fun z => c_1 ((c_le (nI_toInt (n := 25) (by omega)) (nI_toInt (n := i) (by omega))).mpr z)
        have hci := cnt_in (DIST_in hd ht b) i
        have hq1 := DIST_in hd ht b i
        refine lv_aload_n hx hb dX3_countBest_16 rfl (lv_at hl 0 rfl) ?_
        refine lv_iload_n hx hb dX3_countBest_17 rfl (lv_at hl 1 rfl) ?_
        refine lv_iload hx hb dX3_countBest_18 (lv_at hl 4 rfl) ?_
        refine kPi (va_runS (As := [.ref h, .int (nI (b)), .int (nI (i))]) (rest := []) ⟨hx, hb, hml, hown, hts⟩ (c_X3_distanceBy h a1 a2 a3 a4 a5 a6 a7 a8 d t r k o bu kd pi lc sb b i (by first | assumption | omega) (by first | assumption | omega) (by first | assumption | omega) (by first | assumption | omega) (hP.sub [0, 1, 2, 3, 4, 5, 6, 7, 8] rfl)) (va_cwS 3 hts gX3_countBest_X3_distanceBy rfl rfl rfl (by decide +kernel) ⟨Nat.le_of_ble_eq_true rfl, Nat.le_of_ble_eq_true rfl⟩) (preS hC hS hLo) rfl rfl hl.1 rfl (lv_room (Nat.le_of_ble_eq_true rfl)) dX3_countBest_20 ⟨Nat.zero_le _, Nat.zero_le _⟩) hS (fun locs hS => ?_)
        refine lv_istore (lv' := [(5, .int (iI (DIST d t b i))), (0, .ref h), (1, .int (nI (b))), (2, .int (nI ((cnt (DIST d t b) i).1))), (3, .int (iI ((cnt (DIST d t b) i).2))), (4, .int (nI (i)))]) hx hb dX3_countBest_23 hl (by decide) rfl (fun ls hl => ?_)
        refine lv_iload hx hb dX3_countBest_25 (lv_at hl 0 rfl) ?_
        refine lv_iload_n hx hb dX3_countBest_27 rfl (lv_at hl 4 rfl) ?_
        refine lv_icmp_ge (tgt := 39) hx hb dX3_countBest_28 (by decide) (fun c_4 => ?_) (fun c_4 => ?_)
        · have f_5 : ((cnt (DIST d t b) i).2) ≤ (DIST d t b i) := (c_le (iI_toInt (by omega) (by omega)) (iI_toInt (by omega) (by omega))).mp c_4
          refine lv_iload hx hb dX3_countBest_39 (lv_at hl 0 rfl) ?_
          refine lv_iload_n hx hb dX3_countBest_41 rfl (lv_at hl 4 rfl) ?_
          refine lv_icmp_ne (tgt := 48) hx hb dX3_countBest_42 (by decide) (fun c_6 => ?_) (fun c_6 => ?_)
          · have f_7 : ¬ (DIST d t b i) = ((cnt (DIST d t b) i).2) := fun z => c_6 ((c_eq (iI_toInt (by omega) (by omega)) (iI_toInt (by omega) (by omega))).mpr z)
            refine lv_iinc (v := nI (i + 1)) (lv' := [(4, .int (nI (i + 1))), (5, .int (iI (DIST d t b i))), (0, .ref h), (1, .int (nI (b))), (2, .int (nI ((cnt (DIST d t b) i).1))), (3, .int (iI ((cnt (DIST d t b) i).2)))]) hx hb dX3_countBest_48 hl (k := 5) rfl (inc_p i 1) (by decide) rfl (fun ls hl => ?_)
            refine lv_goto (tgt := 9) hx hb dX3_countBest_51 (by decide) ?_
            exact ih_9 (i + 1) (by omega) (by omega) locs ls hS (lv_sub hl [2, 3, 4, 5, 0] ((lvc rfl (lvc rfl (lvc (congrArg Value.int (congrArg nI (by rw [cnt_n (D := DIST d t b) (k := i) (by omega) (by omega)]))) (lvc (congrArg Value.int (congrArg iI (by rw [cnt_n (D := DIST d t b) (k := i) (by omega) (by omega)]))) (lvc rfl rfl)))))))
          · have f_8 : (DIST d t b i) = ((cnt (DIST d t b) i).2) := (c_eq (iI_toInt (by omega) (by omega)) (iI_toInt (by omega) (by omega))).mp c_6
            refine lv_iinc (v := nI (((cnt (DIST d t b) i).1) + 1)) (lv' := [(2, .int (nI (((cnt (DIST d t b) i).1) + 1))), (5, .int (iI (DIST d t b i))), (0, .ref h), (1, .int (nI (b))), (3, .int (iI ((cnt (DIST d t b) i).2))), (4, .int (nI (i)))]) hx hb dX3_countBest_45 hl (k := 3) rfl (inc_p ((cnt (DIST d t b) i).1) 1) (by decide) rfl (fun ls hl => ?_)
            refine lv_iinc (v := nI (i + 1)) (lv' := [(4, .int (nI (i + 1))), (2, .int (nI (((cnt (DIST d t b) i).1) + 1))), (5, .int (iI (DIST d t b i))), (0, .ref h), (1, .int (nI (b))), (3, .int (iI ((cnt (DIST d t b) i).2)))]) hx hb dX3_countBest_48 hl (k := 5) rfl (inc_p i 1) (by decide) rfl (fun ls hl => ?_)
            refine lv_goto (tgt := 9) hx hb dX3_countBest_51 (by decide) ?_
            exact ih_9 (i + 1) (by omega) (by omega) locs ls hS (lv_sub hl [3, 4, 1, 5, 0] ((lvc rfl (lvc rfl (lvc (congrArg Value.int (congrArg nI (by rw [cnt_e (D := DIST d t b) (k := i) (by omega) (by omega)]))) (lvc (congrArg Value.int (congrArg iI (by rw [cnt_e (D := DIST d t b) (k := i) (by omega) (by omega)]))) (lvc rfl rfl)))))))
        · have f_9 : ¬ ((cnt (DIST d t b) i).2) ≤ (DIST d t b i) := fun z => c_4 ((c_le (iI_toInt (by omega) (by omega)) (iI_toInt (by omega) (by omega))).mpr z)
          refine lv_iload hx hb dX3_countBest_31 (lv_at hl 0 rfl) ?_
          refine lv_istore_n (lv' := [(3, .int (iI (DIST d t b i))), (5, .int (iI (DIST d t b i))), (0, .ref h), (1, .int (nI (b))), (2, .int (nI ((cnt (DIST d t b) i).1))), (4, .int (nI (i)))]) hx hb dX3_countBest_33 rfl hl (by decide) rfl (fun ls hl => ?_)
          refine lv_iconst (v := nI (1)) hx hb dX3_countBest_34 (by decide) ?_
          refine lv_istore_n (lv' := [(2, .int (nI (1))), (3, .int (iI (DIST d t b i))), (5, .int (iI (DIST d t b i))), (0, .ref h), (1, .int (nI (b))), (4, .int (nI (i)))]) hx hb dX3_countBest_35 rfl hl (by decide) rfl (fun ls hl => ?_)
          refine lv_goto (tgt := 48) hx hb dX3_countBest_36 (by decide) ?_
          refine lv_iinc (v := nI (i + 1)) (lv' := [(4, .int (nI (i + 1))), (2, .int (nI (1))), (3, .int (iI (DIST d t b i))), (5, .int (iI (DIST d t b i))), (0, .ref h), (1, .int (nI (b)))]) hx hb dX3_countBest_48 hl (k := 5) rfl (inc_p i 1) (by decide) rfl (fun ls hl => ?_)
          refine lv_goto (tgt := 9) hx hb dX3_countBest_51 (by decide) ?_
          exact ih_9 (i + 1) (by omega) (by omega) locs ls hS (lv_sub hl [4, 5, 1, 2, 0] ((lvc rfl (lvc rfl (lvc (congrArg Value.int (congrArg nI (by rw [cnt_y (D := DIST d t b) (k := i) (by omega)]))) (lvc (congrArg Value.int (congrArg iI (by rw [cnt_y (D := DIST d t b) (k := i) (by omega)]))) (lvc rfl rfl)))))))
  exact L_9 (25 + 1) 0 (Nat.lt_succ_self _) (by omega) locs ls hS (lv_sub hl [3, 4, 2, 1, 0] (lvc rfl (lvc rfl (lvc (congrArg Value.int (rfl)) (lvc (congrArg Value.int (nI_i 241)) (lvc rfl rfl))))))
