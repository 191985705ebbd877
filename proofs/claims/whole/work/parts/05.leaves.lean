set_option maxHeartbeats 4000000 in
set_option maxRecDepth 100000 in
theorem c_X8_pixelIn {l : Launch} {G : GT} {H0 : Heap} (b i : Nat) (hb4 : b < 4) (hi16 : i < 16) : Met l yX8_pixelIn wsX8_pixelIn ({ frames := 0, cells := 0, slots := 0, locals := 0 } : Room) (pcG G [.int (nI (b)), .int (nI (i))] H0) (qPi (nI (px b i)) H0) 0 0 noF := by
  refine enter (cc := cX8_pixelIn) (maxL := 4) (ret := some .int) (own := RX8) (lv := [(0, .int (nI (b))), (1, .int (nI (i)))]) (by decide) rfl rfl rfl (Nat.le_of_ble_eq_true rfl) ?_
  intro pg ev s m below meth c hx hb hr hts hown hlocks hml hnm hH hC ls hl
  subst hH
  have hLo : ∀ q, noF q → lo G q := fun _ h => h.elim
  have hS : va_S noF s.heap s.heap [] := va_S.rf
  generalize ([] : List Loc) = locs at hS ⊢
  refine lv_iconst (v := nI (4)) hx hb dX8_pixelIn_0 (by decide) ?_
  refine lv_iload_n hx hb dX8_pixelIn_1 rfl (lv_at hl 0 rfl) ?_
  refine lv_iconst (v := nI (2)) hx hb dX8_pixelIn_2 (by decide) ?_
  refine gDiv (z := nI (b / 2)) hx hb dX8_pixelIn_3 (nI_ne0 (by omega) (by omega)) (pk_div (by omega) (by omega) (by omega)) ?_
  refine gMul (z := nI (4 * (b / 2))) hx hb dX8_pixelIn_4 (pk_mul _ _) ?_
  refine lv_iload_n hx hb dX8_pixelIn_5 rfl (lv_at hl 1 rfl) ?_
  refine lv_iconst (v := nI (4)) hx hb dX8_pixelIn_6 (by decide) ?_
  refine gDiv (z := nI (i / 4)) hx hb dX8_pixelIn_7 (nI_ne0 (by omega) (by omega)) (pk_div (by omega) (by omega) (by omega)) ?_
  refine gAdd (z := nI ((4 * (b / 2)) + (i / 4))) hx hb dX8_pixelIn_8 (nI_add _ _) ?_
  refine lv_istore_n (lv' := [(2, .int (nI ((4 * (b / 2)) + (i / 4)))), (0, .int (nI (b))), (1, .int (nI (i)))]) hx hb dX8_pixelIn_9 rfl hl (by decide) rfl (fun ls hl => ?_)
  refine lv_iconst (v := nI (4)) hx hb dX8_pixelIn_10 (by decide) ?_
  refine lv_iload_n hx hb dX8_pixelIn_11 rfl (lv_at hl 1 rfl) ?_
  refine lv_iconst (v := nI (2)) hx hb dX8_pixelIn_12 (by decide) ?_
  refine gRem (z := nI (b % 2)) hx hb dX8_pixelIn_13 (nI_ne0 (by omega) (by omega)) (pk_rem (by omega) (by omega) (by omega)) ?_
  refine gMul (z := nI (4 * (b % 2))) hx hb dX8_pixelIn_14 (pk_mul _ _) ?_
  refine lv_iload_n hx hb dX8_pixelIn_15 rfl (lv_at hl 2 rfl) ?_
  refine lv_iconst (v := nI (4)) hx hb dX8_pixelIn_16 (by decide) ?_
  refine gRem (z := nI (i % 4)) hx hb dX8_pixelIn_17 (nI_ne0 (by omega) (by omega)) (pk_rem (by omega) (by omega) (by omega)) ?_
  refine gAdd (z := nI ((4 * (b % 2)) + (i % 4))) hx hb dX8_pixelIn_18 (nI_add _ _) ?_
  refine lv_istore_n (lv' := [(3, .int (nI ((4 * (b % 2)) + (i % 4)))), (2, .int (nI ((4 * (b / 2)) + (i / 4)))), (0, .int (nI (b))), (1, .int (nI (i)))]) hx hb dX8_pixelIn_19 rfl hl (by decide) rfl (fun ls hl => ?_)
  refine lv_bipush (v := nI (8)) hx hb dX8_pixelIn_20 (by decide) ?_
  refine lv_iload_n hx hb dX8_pixelIn_22 rfl (lv_at hl 1 rfl) ?_
  refine gMul (z := nI (8 * ((4 * (b / 2)) + (i / 4)))) hx hb dX8_pixelIn_23 (pk_mul _ _) ?_
  refine lv_iload_n hx hb dX8_pixelIn_24 rfl (lv_at hl 0 rfl) ?_
  refine gAdd (z := nI ((8 * ((4 * (b / 2)) + (i / 4))) + ((4 * (b % 2)) + (i % 4)))) hx hb dX8_pixelIn_25 (nI_add _ _) ?_
  exact xPi hx hb hr hlocks hS (by exact rfl) (by exact rfl) dX8_pixelIn_26

set_option maxHeartbeats 4000000 in
set_option maxRecDepth 100000 in
theorem c_X8_downOf {l : Launch} {G : GT} {H0 : Heap} (m0 : Nat) (hm : m0 < 25) : Met l yX8_downOf wsX8_downOf ({ frames := 0, cells := 0, slots := 0, locals := 0 } : Room) (pcG G [.int (nI (m0))] H0) (qPi (iI (mdn m0)) H0) 0 0 noF := by
  refine enter (cc := cX8_downOf) (maxL := 1) (ret := some .int) (own := RX8) (lv := [(0, .int (nI (m0)))]) (by decide) rfl rfl rfl (Nat.le_of_ble_eq_true rfl) ?_
  intro pg ev s m below meth c hx hb hr hts hown hlocks hml hnm hH hC ls hl
  subst hH
  have hLo : ∀ q, noF q → lo G q := fun _ h => h.elim
  have hS : va_S noF s.heap s.heap [] := va_S.rf
  generalize ([] : List Loc) = locs at hS ⊢
  refine lv_iload_n hx hb dX8_downOf_0 rfl (lv_at hl 0 rfl) ?_
  refine lv_iconst (v := nI (5)) hx hb dX8_downOf_1 (by decide) ?_
  refine gDiv (z := nI (m0 / 5)) hx hb dX8_downOf_2 (nI_ne0 (by omega) (by omega)) (pk_div (by omega) (by omega) (by omega)) ?_
  refine lv_iconst (v := nI (2)) hx hb dX8_downOf_3 (by decide) ?_
  refine gSub (z := iI (((m0 / 5 : Nat) : Int) - ((2 : Nat) : Int))) hx hb dX8_downOf_4 (z_sub (nI_i (m0 / 5)) (nI_i (2))) ?_
  exact xPi hx hb hr hlocks hS (by exact rfl) (by exact rfl) dX8_downOf_5

set_option maxHeartbeats 4000000 in
set_option maxRecDepth 100000 in
theorem c_X8_rightOf {l : Launch} {G : GT} {H0 : Heap} (m0 : Nat) (hm : m0 < 25) : Met l yX8_rightOf wsX8_rightOf ({ frames := 0, cells := 0, slots := 0, locals := 0 } : Room) (pcG G [.int (nI (m0))] H0) (qPi (iI (mrt m0)) H0) 0 0 noF := by
  refine enter (cc := cX8_rightOf) (maxL := 1) (ret := some .int) (own := RX8) (lv := [(0, .int (nI (m0)))]) (by decide) rfl rfl rfl (Nat.le_of_ble_eq_true rfl) ?_
  intro pg ev s m below meth c hx hb hr hts hown hlocks hml hnm hH hC ls hl
  subst hH
  have hLo : ∀ q, noF q → lo G q := fun _ h => h.elim
  have hS : va_S noF s.heap s.heap [] := va_S.rf
  generalize ([] : List Loc) = locs at hS ⊢
  refine lv_iload_n hx hb dX8_rightOf_0 rfl (lv_at hl 0 rfl) ?_
  refine lv_iconst (v := nI (5)) hx hb dX8_rightOf_1 (by decide) ?_
  refine gRem (z := nI (m0 % 5)) hx hb dX8_rightOf_2 (nI_ne0 (by omega) (by omega)) (pk_rem (by omega) (by omega) (by omega)) ?_
  refine lv_iconst (v := nI (2)) hx hb dX8_rightOf_3 (by decide) ?_
  refine gSub (z := iI (((m0 % 5 : Nat) : Int) - ((2 : Nat) : Int))) hx hb dX8_rightOf_4 (z_sub (nI_i (m0 % 5)) (nI_i (2))) ?_
  exact xPi hx hb hr hlocks hS (by exact rfl) (by exact rfl) dX8_rightOf_5

set_option maxHeartbeats 4000000 in
set_option maxRecDepth 100000 in
theorem c_X4_valueAt {l : Launch} {G : GT} {H0 : Heap} (h q : Nat) (f : Nat → Int32) (p : Nat) (hp : p < 64) (hP0 : PP G ([(h, .inr (3, [.ref q])), (q, .inl (cI G, 64, .inl (f)))]) H0) : Met l yX4_valueAt wsX4_valueAt ({ frames := 0, cells := 0, slots := 0, locals := 0 } : Room) (pcG G [.ref h, .int (nI (p))] H0) (qPi (f p) H0) 0 0 noF := by
  refine enter (cc := cX4_valueAt) (maxL := 2) (ret := some .int) (own := RX4) (lv := [(0, .ref h), (1, .int (nI (p)))]) (by decide) rfl rfl rfl (Nat.le_of_ble_eq_true rfl) ?_
  intro pg ev s m below meth c hx hb hr hts hown hlocks hml hnm hH hC ls hl
  subst hH
  have hLo : ∀ q, noF q → lo G q := fun _ h => h.elim
  have hS : va_S noF s.heap s.heap [] := va_S.rf
  generalize ([] : List Loc) = locs at hS ⊢
  have hP := hP0
  refine lv_iload_n hx hb dX4_valueAt_0 rfl (lv_at hl 1 rfl) ?_
  refine lv_if_lt (tgt := 10) hx hb dX4_valueAt_1 (by decide) (fun c_1 => ?_) (fun c_1 => ?_)
  · have f_2 : ((p : Nat) : Int) < (0 : Int) := (c_lt (nI_toInt (by omega)) rfl).mp c_1
    exfalso; omega
  · have f_3 : ¬ ((p : Nat) : Int) < (0 : Int) := fun z => c_1 ((c_lt (nI_toInt (by omega)) rfl).mpr z)
    refine lv_iload_n hx hb dX4_valueAt_4 rfl (lv_at hl 1 rfl) ?_
    refine lv_bipush (v := nI (64)) hx hb dX4_valueAt_5 (by decide) ?_
    refine lv_icmp_lt (tgt := 14) hx hb dX4_valueAt_7 (by decide) (fun c_4 => ?_) (fun c_4 => ?_)
    · have f_5 : ((p : Nat) : Int) < ((64 : Nat) : Int) := (c_lt (nI_toInt (by omega)) (nI_toInt (by omega))).mp c_4
      refine lv_aload_n hx hb dX4_valueAt_14 rfl (lv_at hl 0 rfl) ?_
      refine va_get (D := gD G) (cl := vwCl) (tys := tyl G) (ci := 3) (v := .ref q) (C := RX4) (T := TX4) (N := 1) hx hb hts (by decide +kernel) hown hC.K hP 0 rfl rfl 0 (by decide) (hts (.fieldLink RX4 9 "MotionPost$Picture" "values" "[I") (by decide +kernel)) (fun _ h9 => h9) rfl dX4_valueAt_15 ?_
      refine lv_iload_n hx hb dX4_valueAt_18 rfl (lv_at hl 1 rfl) ?_
      refine gIald (j := p) hx hb hC.K hP 1 0 rfl rfl (rfl) (by omega) (by decide) dX4_valueAt_19 ?_
      exact xPi hx hb hr hlocks hS (by exact rfl) (by exact rfl) dX4_valueAt_20
    · have f_6 : ¬ ((p : Nat) : Int) < ((64 : Nat) : Int) := fun z => c_4 ((c_lt (nI_toInt (by omega)) (nI_toInt (by omega))).mpr z)
      exfalso; omega

set_option maxHeartbeats 4000000 in
set_option maxRecDepth 100000 in
theorem c_X4_movedValueAt {l : Launch} {G : GT} {H0 : Heap} (h q : Nat) (f : Nat → Int32) (p : Nat) (dy dx : Int) (hp : p < 64) (hdy : -2 ≤ dy ∧ dy ≤ 2) (hdx : -2 ≤ dx ∧ dx ≤ 2) (hP0 : PP G ([(h, .inr (3, [.ref q])), (q, .inl (cI G, 64, .inl (f)))]) H0) : Met l yX4_movedValueAt wsX4_movedValueAt ({ frames := 0, cells := 0, slots := 0, locals := 0 } : Room) (pcG G [.ref h, .int (nI (p)), .int (iI (dy)), .int (iI (dx))] H0) (qPi (f (fr p dy dx)) H0) 0 0 noF := by
  refine enter (cc := cX4_movedValueAt) (maxL := 6) (ret := some .int) (own := RX4) (lv := [(0, .ref h), (1, .int (nI (p))), (2, .int (iI (dy))), (3, .int (iI (dx)))]) (by decide) rfl rfl rfl (Nat.le_of_ble_eq_true rfl) ?_
  intro pg ev s m below meth c hx hb hr hts hown hlocks hml hnm hH hC ls hl
  subst hH
  have hLo : ∀ q, noF q → lo G q := fun _ h => h.elim
  have hS : va_S noF s.heap s.heap [] := va_S.rf
  generalize ([] : List Loc) = locs at hS ⊢
  have hP := hP0
  refine lv_iload_n hx hb dX4_movedValueAt_0 rfl (lv_at hl 1 rfl) ?_
  refine lv_bipush (v := nI (8)) hx hb dX4_movedValueAt_1 (by decide) ?_
  refine gDiv (z := nI (p / 8)) hx hb dX4_movedValueAt_3 (nI_ne0 (by omega) (by omega)) (pk_div (by omega) (by omega) (by omega)) ?_
  refine lv_iload_n hx hb dX4_movedValueAt_4 rfl (lv_at hl 2 rfl) ?_
  refine gAdd (z := iI (((p / 8 : Nat) : Int) + (dy))) hx hb dX4_movedValueAt_5 (z_add (nI_i (p / 8)) rfl) ?_
  refine lv_istore (lv' := [(4, .int (iI (((p / 8 : Nat) : Int) + (dy)))), (0, .ref h), (1, .int (nI (p))), (2, .int (iI (dy))), (3, .int (iI (dx)))]) hx hb dX4_movedValueAt_6 hl (by decide) rfl (fun ls hl => ?_)
  refine lv_iload_n hx hb dX4_movedValueAt_8 rfl (lv_at hl 2 rfl) ?_
  refine lv_bipush (v := nI (8)) hx hb dX4_movedValueAt_9 (by decide) ?_
  refine gRem (z := nI (p % 8)) hx hb dX4_movedValueAt_11 (nI_ne0 (by omega) (by omega)) (pk_rem (by omega) (by omega) (by omega)) ?_
  refine lv_iload_n hx hb dX4_movedValueAt_12 rfl (lv_at hl 4 rfl) ?_
  refine gAdd (z := iI (((p % 8 : Nat) : Int) + (dx))) hx hb dX4_movedValueAt_13 (z_add (nI_i (p % 8)) rfl) ?_
  refine lv_istore (lv' := [(5, .int (iI (((p % 8 : Nat) : Int) + (dx)))), (4, .int (iI (((p / 8 : Nat) : Int) + (dy)))), (0, .ref h), (1, .int (nI (p))), (2, .int (iI (dy))), (3, .int (iI (dx)))]) hx hb dX4_movedValueAt_14 hl (by decide) rfl (fun ls hl => ?_)
  have J_39 : ∀ (locs : List Loc) (ls : Array Slot), va_S noF s.heap s.heap locs → lv_has ls 6 [(0, .ref h), (1, .int (nI (p))), (2, .int (iI (dy))), (3, .int (iI (dx))), (4, .int (iI (((p / 8 : Nat) : Int) + (dy)))), (5, .int (iI (((p % 8 : Nat) : Int) + (dx))))] → W pg l ev ({ frames := 0, cells := 0, slots := 0, locals := 0 } : Room) s m (([.ref h, .int (nI (p)), .int (iI (dy)), .int (iI (dx))] : List Value).toArray) below meth c s.heap locs 0 0 (MQ below (qPi (f (fr p dy dx)) s.heap) (([.ref h, .int (nI (p)), .int (iI (dy)), .int (iI (dx))] : List Value).toArray) s 0 0 noF) (F0 m 39 ls [.int (nI (ed (((p / 8 : Nat) : Int) + dy)))]) := by
    intro locs ls hS hl
    refine lv_istore (lv' := [(4, .int (nI (ed (((p / 8 : Nat) : Int) + dy)))), (0, .ref h), (1, .int (nI (p))), (2, .int (iI (dy))), (3, .int (iI (dx))), (5, .int (iI (((p % 8 : Nat) : Int) + (dx))))]) hx hb dX4_movedValueAt_39 hl (by decide) rfl (fun ls hl => ?_)
    have J_64 : ∀ (locs : List Loc) (ls : Array Slot), va_S noF s.heap s.heap locs → lv_has ls 6 [(0, .ref h), (1, .int (nI (p))), (2, .int (iI (dy))), (3, .int (iI (dx))), (4, .int (nI (ed (((p / 8 : Nat) : Int) + dy)))), (5, .int (iI (((p % 8 : Nat) : Int) + (dx))))] → W pg l ev ({ frames := 0, cells := 0, slots := 0, locals := 0 } : Room) s m (([.ref h, .int (nI (p)), .int (iI (dy)), .int (iI (dx))] : List Value).toArray) below meth c s.heap locs 0 0 (MQ below (qPi (f (fr p dy dx)) s.heap) (([.ref h, .int (nI (p)), .int (iI (dy)), .int (iI (dx))] : List Value).toArray) s 0 0 noF) (F0 m 64 ls [.int (nI (ed (((p % 8 : Nat) : Int) + dx)))]) := by
      intro locs ls hS hl
      refine lv_istore (lv' := [(5, .int (nI (ed (((p % 8 : Nat) : Int) + dx)))), (0, .ref h), (1, .int (nI (p))), (2, .int (iI (dy))), (3, .int (iI (dx))), (4, .int (nI (ed (((p / 8 : Nat) : Int) + dy))))]) hx hb dX4_movedValueAt_64 hl (by decide) rfl (fun ls hl => ?_)
      have he1 := ed_lt (((p / 8 : Nat) : Int) + dy)
      have he2 := ed_lt (((p % 8 : Nat) : Int) + dx)
      refine lv_aload_n hx hb dX4_movedValueAt_66 rfl (lv_at hl 1 rfl) ?_
      refine va_get (D := gD G) (cl := vwCl) (tys := tyl G) (ci := 3) (v := .ref q) (C := RX4) (T := TX4) (N := 1) hx hb hts (by decide +kernel) hown hC.K hP 0 rfl rfl 0 (by decide) (hts (.fieldLink RX4 9 "MotionPost$Picture" "values" "[I") (by decide +kernel)) (fun _ h9 => h9) rfl dX4_movedValueAt_67 ?_
      refine lv_bipush (v := nI (8)) hx hb dX4_movedValueAt_70 (by decide) ?_
      refine lv_iload hx hb dX4_movedValueAt_72 (lv_at hl 5 rfl) ?_
      refine gMul (z := nI (8 * (ed (((p / 8 : Nat) : Int) + dy)))) hx hb dX4_movedValueAt_74 (pk_mul _ _) ?_
      refine lv_iload hx hb dX4_movedValueAt_75 (lv_at hl 0 rfl) ?_
      refine gAdd (z := nI ((8 * (ed (((p / 8 : Nat) : Int) + dy))) + (ed (((p % 8 : Nat) : Int) + dx)))) hx hb dX4_movedValueAt_77 (nI_add _ _) ?_
      refine gIald (j := fr p dy dx) hx hb hC.K hP 1 0 rfl rfl (rfl) (fr_lt p dy dx) (by decide) dX4_movedValueAt_78 ?_
      exact xPi hx hb hr hlocks hS (by exact rfl) (by exact rfl) dX4_movedValueAt_79
    refine lv_iload hx hb dX4_movedValueAt_41 (lv_at hl 5 rfl) ?_
    refine lv_if_ge (tgt := 50) hx hb dX4_movedValueAt_43 (by decide) (fun c_1 => ?_) (fun c_1 => ?_)
    · have f_2 : (0 : Int) ≤ (((p % 8 : Nat) : Int) + (dx)) := (c_le rfl (iI_toInt (by omega) (by omega))).mp c_1
      refine lv_iload hx hb dX4_movedValueAt_50 (lv_at hl 5 rfl) ?_
      refine lv_bipush (v := nI (8)) hx hb dX4_movedValueAt_52 (by decide) ?_
      refine lv_icmp_lt (tgt := 62) hx hb dX4_movedValueAt_54 (by decide) (fun c_3 => ?_) (fun c_3 => ?_)
      · have f_4 : (((p % 8 : Nat) : Int) + (dx)) < ((8 : Nat) : Int) := (c_lt (iI_toInt (by omega) (by omega)) (nI_toInt (by omega))).mp c_3
        refine lv_iload hx hb dX4_movedValueAt_62 (lv_at hl 5 rfl) ?_
        refine topE (v' := nI (ed (((p % 8 : Nat) : Int) + dx))) (by first | exact ed_lo (by omega) | exact ed_hi (by omega) | exact ed_mid (by omega) (by omega)) ?_
        exact J_64 locs ls hS (lv_sub hl [1, 2, 3, 4, 0, 5] (rfl))
      · have f_5 : ¬ (((p % 8 : Nat) : Int) + (dx)) < ((8 : Nat) : Int) := fun z => c_3 ((c_lt (iI_toInt (by omega) (by omega)) (nI_toInt (by omega))).mpr z)
        refine lv_bipush (v := nI (7)) hx hb dX4_movedValueAt_57 (by decide) ?_
        refine lv_goto (tgt := 64) hx hb dX4_movedValueAt_59 (by decide) ?_
        refine topE (v' := nI (ed (((p % 8 : Nat) : Int) + dx))) (by first | exact ed_lo (by omega) | exact ed_hi (by omega) | exact ed_mid (by omega) (by omega)) ?_
        exact J_64 locs ls hS (lv_sub hl [1, 2, 3, 4, 0, 5] (rfl))
    · have f_6 : ¬ (0 : Int) ≤ (((p % 8 : Nat) : Int) + (dx)) := fun z => c_1 ((c_le rfl (iI_toInt (by omega) (by omega))).mpr z)
      refine lv_iconst (v := nI (0)) hx hb dX4_movedValueAt_46 (by decide) ?_
      refine lv_goto (tgt := 64) hx hb dX4_movedValueAt_47 (by decide) ?_
      refine topE (v' := nI (ed (((p % 8 : Nat) : Int) + dx))) (by first | exact ed_lo (by omega) | exact ed_hi (by omega) | exact ed_mid (by omega) (by omega)) ?_
      exact J_64 locs ls hS (lv_sub hl [1, 2, 3, 4, 0, 5] (rfl))
  refine lv_iload hx hb dX4_movedValueAt_16 (lv_at hl 1 rfl) ?_
  refine lv_if_ge (tgt := 25) hx hb dX4_movedValueAt_18 (by decide) (fun c_7 => ?_) (fun c_7 => ?_)
  · have f_8 : (0 : Int) ≤ (((p / 8 : Nat) : Int) + (dy)) := (c_le rfl (iI_toInt (by omega) (by omega))).mp c_7
    refine lv_iload hx hb dX4_movedValueAt_25 (lv_at hl 1 rfl) ?_
    refine lv_bipush (v := nI (8)) hx hb dX4_movedValueAt_27 (by decide) ?_
    refine lv_icmp_lt (tgt := 37) hx hb dX4_movedValueAt_29 (by decide) (fun c_9 => ?_) (fun c_9 => ?_)
    · have f_10 : (((p / 8 : Nat) : Int) + (dy)) < ((8 : Nat) : Int) := (c_lt (iI_toInt (by omega) (by omega)) (nI_toInt (by omega))).mp c_9
      refine lv_iload hx hb dX4_movedValueAt_37 (lv_at hl 1 rfl) ?_
      refine topE (v' := nI (ed (((p / 8 : Nat) : Int) + dy))) (by first | exact ed_lo (by omega) | exact ed_hi (by omega) | exact ed_mid (by omega) (by omega)) ?_
      exact J_39 locs ls hS (lv_sub hl [2, 3, 4, 5, 1, 0] (rfl))
    · have f_11 : ¬ (((p / 8 : Nat) : Int) + (dy)) < ((8 : Nat) : Int) := fun z => c_9 ((c_lt (iI_toInt (by omega) (by omega)) (nI_toInt (by omega))).mpr z)
      refine lv_bipush (v := nI (7)) hx hb dX4_movedValueAt_32 (by decide) ?_
      refine lv_goto (tgt := 39) hx hb dX4_movedValueAt_34 (by decide) ?_
      refine topE (v' := nI (ed (((p / 8 : Nat) : Int) + dy))) (by first | exact ed_lo (by omega) | exact ed_hi (by omega) | exact ed_mid (by omega) (by omega)) ?_
      exact J_39 locs ls hS (lv_sub hl [2, 3, 4, 5, 1, 0] (rfl))
  · have f_12 : ¬ (0 : Int) ≤ (((p / 8 : Nat) : Int) + (dy)) := fun z => c_7 ((c_le rfl (iI_toInt (by omega) (by omega))).mpr z)
    refine lv_iconst (v := nI (0)) hx hb dX4_movedValueAt_21 (by decide) ?_
    refine lv_goto (tgt := 39) hx hb dX4_movedValueAt_22 (by decide) ?_
    refine topE (v' := nI (ed (((p / 8 : Nat) : Int) + dy))) (by first | exact ed_lo (by omega) | exact ed_hi (by omega) | exact ed_mid (by omega) (by omega)) ?_
    exact J_39 locs ls hS (lv_sub hl [2, 3, 4, 5, 1, 0] (rfl))

set_option maxHeartbeats 4000000 in
set_option maxRecDepth 100000 in
theorem c_X4_put {l : Launch} {G : GT} {H0 : Heap} (h q : Nat) (f : Nat → Int32) (p : Nat) (v : Int32) (hp : p < 64) (hP0 : PP G ([(h, .inr (3, [.ref q])), (q, .inl (cI G, 64, .inl (f)))]) H0) (hB0 : va_D (lo G) ([(h, .inr (3, [.ref q])), (q, .inl (cI G, 64, .inl (f)))])) : Met l yX4_put wsX4_put ({ frames := 0, cells := 0, slots := 0, locals := 0 } : Room) (pcG G [.ref h, .int (nI (p)), .int (v)] H0) (qMi G (fun (r : Int32) (u : Unit) => r = f p) (fun (u : Unit) => [(h, .inr (3, [.ref q])), (q, .inl (cI G, 64, .inl (upd f p v)))]) ([(h, .inr (3, [.ref q])), (q, .inl (cI G, 64, .inl (f)))]) H0) 0 0 (va_A ([(h, .inr (3, [.ref q])), (q, .inl (cI G, 64, .inl (f)))]) H0.size) := by
  refine enter (cc := cX4_put) (maxL := 4) (ret := some .int) (own := RX4) (lv := [(0, .ref h), (1, .int (nI (p))), (2, .int (v))]) (by decide) rfl rfl rfl (Nat.le_of_ble_eq_true rfl) ?_
  intro pg ev s m below meth c hx hb hr hts hown hlocks hml hnm hH hC ls hl
  subst hH
  have hLo := va_freeB hB0 hC.2.2.2.1
  have hD := hB0.self (sz := s.heap.size)
  have hA : ∀ q, s.heap.size ≤ q → va_A ([(h, .inr (3, [.ref q])), (q, .inl (cI G, 64, .inl (f)))]) s.heap.size q := fun q h => Or.inr h
  have hS : va_S (va_A ([(h, .inr (3, [.ref q])), (q, .inl (cI G, 64, .inl (f)))]) s.heap.size) s.heap s.heap [] := va_S.rf
  unfold qMi
  generalize hAe : va_A ([(h, .inr (3, [.ref q])), (q, .inl (cI G, 64, .inl (f)))]) s.heap.size = A at hD hLo hA hS ⊢
  generalize ([] : List Loc) = locs at hS ⊢
  have hP := hP0
  refine lv_iload_n hx hb dX4_put_0 rfl (lv_at hl 1 rfl) ?_
  refine lv_if_lt (tgt := 10) hx hb dX4_put_1 (by decide) (fun c_1 => ?_) (fun c_1 => ?_)
  · have f_2 : ((p : Nat) : Int) < (0 : Int) := (c_lt (nI_toInt (by omega)) rfl).mp c_1
    exfalso; omega
  · have f_3 : ¬ ((p : Nat) : Int) < (0 : Int) := fun z => c_1 ((c_lt (nI_toInt (by omega)) rfl).mpr z)
    refine lv_iload_n hx hb dX4_put_4 rfl (lv_at hl 1 rfl) ?_
    refine lv_bipush (v := nI (64)) hx hb dX4_put_5 (by decide) ?_
    refine lv_icmp_lt (tgt := 12) hx hb dX4_put_7 (by decide) (fun c_4 => ?_) (fun c_4 => ?_)
    · have f_5 : ((p : Nat) : Int) < ((64 : Nat) : Int) := (c_lt (nI_toInt (by omega)) (nI_toInt (by omega))).mp c_4
      refine lv_aload_n hx hb dX4_put_12 rfl (lv_at hl 0 rfl) ?_
      refine va_get (D := gD G) (cl := vwCl) (tys := tyl G) (ci := 3) (v := .ref q) (C := RX4) (T := TX4) (N := 1) hx hb hts (by decide +kernel) hown hC.K hP 0 rfl rfl 0 (by decide) (hts (.fieldLink RX4 9 "MotionPost$Picture" "values" "[I") (by decide +kernel)) (fun _ h9 => h9) rfl dX4_put_13 ?_
      refine lv_iload_n hx hb dX4_put_16 rfl (lv_at hl 1 rfl) ?_
      refine gIald (j := p) hx hb hC.K hP 1 0 rfl rfl (rfl) (by omega) (by decide) dX4_put_17 ?_
      refine lv_istore_n (lv' := [(3, .int (f p)), (0, .ref h), (1, .int (nI (p))), (2, .int (v))]) hx hb dX4_put_18 rfl hl (by decide) rfl (fun ls hl => ?_)
      refine lv_aload_n hx hb dX4_put_19 rfl (lv_at hl 1 rfl) ?_
      refine va_get (D := gD G) (cl := vwCl) (tys := tyl G) (ci := 3) (v := .ref q) (C := RX4) (T := TX4) (N := 1) hx hb hts (by decide +kernel) hown hC.K hP 0 rfl rfl 0 (by decide) (hts (.fieldLink RX4 9 "MotionPost$Picture" "values" "[I") (by decide +kernel)) (fun _ h9 => h9) rfl dX4_put_20 ?_
      refine lv_iload_n hx hb dX4_put_23 rfl (lv_at hl 2 rfl) ?_
      refine lv_iload_n hx hb dX4_put_24 rfl (lv_at hl 3 rfl) ?_
      refine gIast (j := p) (f' := upd f p v) hx hb hC.K hP hD hS 1 0 rfl rfl (rfl) (by omega) (by decide) (rfl) dX4_put_25 (fun H locs hP hD hS => ?_)
      have hP : PP G ([(h, .inr (3, [.ref q])), (q, .inl (cI G, 64, .inl (upd f p v)))]) H := hP
      have hD : va_D A ([(h, .inr (3, [.ref q])), (q, .inl (cI G, 64, .inl (upd f p v)))]) := hD
      refine lv_iload_n hx hb dX4_put_26 rfl (lv_at hl 0 rfl) ?_
      exact xMi (G := G) (post := (fun (r : Int32) (u : Unit) => r = f p)) (w1 := (fun (u : Unit) => [(h, .inr (3, [.ref q])), (q, .inl (cI G, 64, .inl (upd f p v)))])) (()) hx hb hr hlocks hP hS (by exact rfl) (by exact rfl) dX4_put_27
    · have f_6 : ¬ ((p : Nat) : Int) < ((64 : Nat) : Int) := fun z => c_4 ((c_lt (nI_toInt (by omega)) (nI_toInt (by omega))).mpr z)
      exfalso; omega

set_option maxHeartbeats 4000000 in
set_option maxRecDepth 100000 in
theorem c_X4_copyFrom {l : Launch} {G : GT} {H0 : Heap} (h q : Nat) (f : Nat → Int32) (h2 q2 : Nat) (f2 : Nat → Int32)  (hP0 : PP G ([(h, .inr (3, [.ref q])), (q, .inl (cI G, 64, .inl (f))), (h2, .inr (3, [.ref q2])), (q2, .inl (cI G, 64, .inl (f2)))]) H0) (hB0 : va_D (lo G) ([(h, .inr (3, [.ref q])), (q, .inl (cI G, 64, .inl (f))), (h2, .inr (3, [.ref q2])), (q2, .inl (cI G, 64, .inl (f2)))])) : Met l yX4_copyFrom wsX4_copyFrom ({ frames := 1, cells := 0, slots := 0, locals := 24 } : Room) (pcG G [.ref h, .ref h2] H0) (qMv G (fun (u : Unit) => u = ()) (fun (u : Unit) => [(h, .inr (3, [.ref q])), (q, .inl (cI G, 64, .inl (f2))), (h2, .inr (3, [.ref q2])), (q2, .inl (cI G, 64, .inl (f2)))]) ([(h, .inr (3, [.ref q])), (q, .inl (cI G, 64, .inl (f))), (h2, .inr (3, [.ref q2])), (q2, .inl (cI G, 64, .inl (f2)))]) H0) 0 0 (va_A ([(h, .inr (3, [.ref q])), (q, .inl (cI G, 64, .inl (f))), (h2, .inr (3, [.ref q2])), (q2, .inl (cI G, 64, .inl (f2)))]) H0.size) := by
  refine enter (cc := cX4_copyFrom) (maxL := 2) (ret := none) (own := RX4) (lv := [(0, .ref h), (1, .ref h2)]) (by decide) rfl rfl rfl (Nat.le_of_ble_eq_true rfl) ?_
  intro pg ev s m below meth c hx hb hr hts hown hlocks hml hnm hH hC ls hl
  subst hH
  have hLo := va_freeB hB0 hC.2.2.2.1
  have hD := hB0.self (sz := s.heap.size)
  have hA : ∀ q, s.heap.size ≤ q → va_A ([(h, .inr (3, [.ref q])), (q, .inl (cI G, 64, .inl (f))), (h2, .inr (3, [.ref q2])), (q2, .inl (cI G, 64, .inl (f2)))]) s.heap.size q := fun q h => Or.inr h
  have hS : va_S (va_A ([(h, .inr (3, [.ref q])), (q, .inl (cI G, 64, .inl (f))), (h2, .inr (3, [.ref q2])), (q2, .inl (cI G, 64, .inl (f2)))]) s.heap.size) s.heap s.heap [] := va_S.rf
  unfold qMv
  generalize hAe : va_A ([(h, .inr (3, [.ref q])), (q, .inl (cI G, 64, .inl (f))), (h2, .inr (3, [.ref q2])), (q2, .inl (cI G, 64, .inl (f2)))]) s.heap.size = A at hD hLo hA hS ⊢
  generalize ([] : List Loc) = locs at hS ⊢
  have hP := hP0
  refine lv_aload_n hx hb dX4_copyFrom_0 rfl (lv_at hl 1 rfl) ?_
  refine va_get (D := gD G) (cl := vwCl) (tys := tyl G) (ci := 3) (v := .ref q2) (C := RX4) (T := TX4) (N := 1) hx hb hts (by decide +kernel) hown hC.K hP 2 rfl rfl 0 (by decide) (hts (.fieldLink RX4 9 "MotionPost$Picture" "values" "[I") (by decide +kernel)) (fun _ h9 => h9) rfl dX4_copyFrom_1 ?_
  refine lv_iconst (v := nI (0)) hx hb dX4_copyFrom_4 (by decide) ?_
  refine lv_aload_n hx hb dX4_copyFrom_5 rfl (lv_at hl 0 rfl) ?_
  refine va_get (D := gD G) (cl := vwCl) (tys := tyl G) (ci := 3) (v := .ref q) (C := RX4) (T := TX4) (N := 1) hx hb hts (by decide +kernel) hown hC.K hP 0 rfl rfl 0 (by decide) (hts (.fieldLink RX4 9 "MotionPost$Picture" "values" "[I") (by decide +kernel)) (fun _ h9 => h9) rfl dX4_copyFrom_6 ?_
  refine lv_iconst (v := nI (0)) hx hb dX4_copyFrom_9 (by decide) ?_
  refine lv_bipush (v := nI (64)) hx hb dX4_copyFrom_10 (by decide) ?_
  refine gCopy (k := 64) (t0 := 0) hx hb (hml.trans hl.1.symm) hown (hts (.methodLink RX4 23 arraycopyName) (by decide +kernel)) (hts (.native arraycopyName) (by decide +kernel)) (hts (.static arraycopyName) (by decide +kernel)) (hts (.initialized "java/lang/System") (by decide +kernel)) hC.K hP hD hS 3 1 rfl rfl rfl (by decide) (by decide) (Nat.le_of_ble_eq_true rfl) (Nat.le_of_ble_eq_true rfl) dX4_copyFrom_12 (fun H locs hP hD hS => ?_)
  have hP : PP G ([(h, .inr (3, [.ref q])), (q, .inl (cI G, 64, .inl (f2))), (h2, .inr (3, [.ref q2])), (q2, .inl (cI G, 64, .inl (f2)))]) H := hP
  have hD : va_D A ([(h, .inr (3, [.ref q])), (q, .inl (cI G, 64, .inl (f2))), (h2, .inr (3, [.ref q2])), (q2, .inl (cI G, 64, .inl (f2)))]) := hD
  exact xMv (G := G) (post := (fun (u : Unit) => u = ())) (w1 := (fun (u : Unit) => [(h, .inr (3, [.ref q])), (q, .inl (cI G, 64, .inl (f2))), (h2, .inr (3, [.ref q2])), (q2, .inl (cI G, 64, .inl (f2)))])) (()) hx hb hr hlocks hP hS (by exact rfl) dX4_copyFrom_15
