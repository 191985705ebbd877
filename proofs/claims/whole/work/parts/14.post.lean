set_option maxHeartbeats 4000000 in
set_option maxRecDepth 100000 in
theorem c_X8_requirePixel {l : Launch} {G : GT} {H0 : Heap} (p : Nat) (hp : p < 64) : Met l yX8_requirePixel wsX8_requirePixel ({ frames := 0, cells := 0, slots := 0, locals := 0 } : Room) (pcG G [.int (nI (p))] H0) (qPv H0) 0 0 noF := by
  refine enter (cc := cX8_requirePixel) (maxL := 1) (ret := none) (own := RX8) (lv := [(0, .int (nI (p)))]) (by decide) rfl rfl rfl (Nat.le_of_ble_eq_true rfl) ?_
  intro pg ev s m below meth c hx hb hr hts hown hlocks hml hnm hH hC ls hl
  subst hH
  have hLo : ∀ q, noF q → lo G q := fun _ h => h.elim
  have hS : va_S noF s.heap s.heap [] := va_S.rf
  generalize ([] : List Loc) = locs at hS ⊢
  refine lv_iload_n hx hb dX8_requirePixel_0 rfl (lv_at hl 0 rfl) ?_
  refine lv_if_lt (tgt := 10) hx hb dX8_requirePixel_1 (by decide) (fun c_1 => ?_) (fun c_1 => ?_)
  · have f_2 : ((p : Nat) : Int) < (0 : Int) := (c_lt (nI_toInt (n := p) (by omega)) rfl).mp c_1
    exfalso; omega
  · have f_3 : ¬ ((p : Nat) : Int) < (0 : Int) := fun z => c_1 ((c_lt (nI_toInt (n := p) (by omega)) rfl).mpr z)
    refine lv_iload_n hx hb dX8_requirePixel_4 rfl (lv_at hl 0 rfl) ?_
    refine lv_bipush (v := nI (64)) hx hb dX8_requirePixel_5 (by decide) ?_
    refine lv_icmp_lt (tgt := 20) hx hb dX8_requirePixel_7 (by decide) (fun c_4 => ?_) (fun c_4 => ?_)
    · have f_5 : ((p : Nat) : Int) < (64 : Int) := (c_lt (nI_toInt (n := p) (by omega)) (nI_toInt (n := 64) (by omega))).mp c_4
      exact xPv hx hb hr hlocks hS dX8_requirePixel_20
    · have f_6 : ¬ ((p : Nat) : Int) < (64 : Int) := fun z => c_4 ((c_lt (nI_toInt (n := p) (by omega)) (nI_toInt (n := 64) (by omega))).mpr z)
      exfalso; omega

set_option maxHeartbeats 4000000 in
set_option maxRecDepth 100000 in
theorem c_X8_requireBlock {l : Launch} {G : GT} {H0 : Heap} (p : Nat) (hp : p < 4) : Met l yX8_requireBlock wsX8_requireBlock ({ frames := 0, cells := 0, slots := 0, locals := 0 } : Room) (pcG G [.int (nI (p))] H0) (qPv H0) 0 0 noF := by
  refine enter (cc := cX8_requireBlock) (maxL := 1) (ret := none) (own := RX8) (lv := [(0, .int (nI (p)))]) (by decide) rfl rfl rfl (Nat.le_of_ble_eq_true rfl) ?_
  intro pg ev s m below meth c hx hb hr hts hown hlocks hml hnm hH hC ls hl
  subst hH
  have hLo : ∀ q, noF q → lo G q := fun _ h => h.elim
  have hS : va_S noF s.heap s.heap [] := va_S.rf
  generalize ([] : List Loc) = locs at hS ⊢
  refine lv_iload_n hx hb dX8_requireBlock_0 rfl (lv_at hl 0 rfl) ?_
  refine lv_if_lt (tgt := 9) hx hb dX8_requireBlock_1 (by decide) (fun c_1 => ?_) (fun c_1 => ?_)
  · have f_2 : ((p : Nat) : Int) < (0 : Int) := (c_lt (nI_toInt (n := p) (by omega)) rfl).mp c_1
    exfalso; omega
  · have f_3 : ¬ ((p : Nat) : Int) < (0 : Int) := fun z => c_1 ((c_lt (nI_toInt (n := p) (by omega)) rfl).mpr z)
    refine lv_iload_n hx hb dX8_requireBlock_4 rfl (lv_at hl 0 rfl) ?_
    refine lv_iconst (v := nI (4)) hx hb dX8_requireBlock_5 (by decide) ?_
    refine lv_icmp_lt (tgt := 19) hx hb dX8_requireBlock_6 (by decide) (fun c_4 => ?_) (fun c_4 => ?_)
    · have f_5 : ((p : Nat) : Int) < (4 : Int) := (c_lt (nI_toInt (n := p) (by omega)) (nI_toInt (n := 4) (by omega))).mp c_4
      exact xPv hx hb hr hlocks hS dX8_requireBlock_19
    · have f_6 : ¬ ((p : Nat) : Int) < (4 : Int) := fun z => c_4 ((c_lt (nI_toInt (n := p) (by omega)) (nI_toInt (n := 4) (by omega))).mpr z)
      exfalso; omega

set_option maxHeartbeats 4000000 in
set_option maxRecDepth 100000 in
theorem c_X8_requireSlot {l : Launch} {G : GT} {H0 : Heap} (p : Nat) (hp : p < 2) : Met l yX8_requireSlot wsX8_requireSlot ({ frames := 0, cells := 0, slots := 0, locals := 0 } : Room) (pcG G [.int (nI (p))] H0) (qPv H0) 0 0 noF := by
  refine enter (cc := cX8_requireSlot) (maxL := 1) (ret := none) (own := RX8) (lv := [(0, .int (nI (p)))]) (by decide) rfl rfl rfl (Nat.le_of_ble_eq_true rfl) ?_
  intro pg ev s m below meth c hx hb hr hts hown hlocks hml hnm hH hC ls hl
  subst hH
  have hLo : ∀ q, noF q → lo G q := fun _ h => h.elim
  have hS : va_S noF s.heap s.heap [] := va_S.rf
  generalize ([] : List Loc) = locs at hS ⊢
  refine lv_iload_n hx hb dX8_requireSlot_0 rfl (lv_at hl 0 rfl) ?_
  refine lv_if_lt (tgt := 9) hx hb dX8_requireSlot_1 (by decide) (fun c_1 => ?_) (fun c_1 => ?_)
  · have f_2 : ((p : Nat) : Int) < (0 : Int) := (c_lt (nI_toInt (n := p) (by omega)) rfl).mp c_1
    exfalso; omega
  · have f_3 : ¬ ((p : Nat) : Int) < (0 : Int) := fun z => c_1 ((c_lt (nI_toInt (n := p) (by omega)) rfl).mpr z)
    refine lv_iload_n hx hb dX8_requireSlot_4 rfl (lv_at hl 0 rfl) ?_
    refine lv_iconst (v := nI (2)) hx hb dX8_requireSlot_5 (by decide) ?_
    refine lv_icmp_lt (tgt := 19) hx hb dX8_requireSlot_6 (by decide) (fun c_4 => ?_) (fun c_4 => ?_)
    · have f_5 : ((p : Nat) : Int) < (2 : Int) := (c_lt (nI_toInt (n := p) (by omega)) (nI_toInt (n := 2) (by omega))).mp c_4
      exact xPv hx hb hr hlocks hS dX8_requireSlot_19
    · have f_6 : ¬ ((p : Nat) : Int) < (2 : Int) := fun z => c_4 ((c_lt (nI_toInt (n := p) (by omega)) (nI_toInt (n := 2) (by omega))).mpr z)
      exfalso; omega

set_option maxHeartbeats 4000000 in
set_option maxRecDepth 100000 in
theorem c_X8_requireWithin {l : Launch} {G : GT} {H0 : Heap} (x y z : Int32) (hx1 : y.toInt ≤ x.toInt) (hx2 : x.toInt ≤ z.toInt) : Met l yX8_requireWithin wsX8_requireWithin ({ frames := 0, cells := 0, slots := 0, locals := 0 } : Room) (pcG G [.int (x), .int (y), .int (z)] H0) (qPv H0) 0 0 noF := by
  refine enter (cc := cX8_requireWithin) (maxL := 3) (ret := none) (own := RX8) (lv := [(0, .int (x)), (1, .int (y)), (2, .int (z))]) (by decide) rfl rfl rfl (Nat.le_of_ble_eq_true rfl) ?_
  intro pg ev s m below meth c hx hb hr hts hown hlocks hml hnm hH hC ls hl
  subst hH
  have hLo : ∀ q, noF q → lo G q := fun _ h => h.elim
  have hS : va_S noF s.heap s.heap [] := va_S.rf
  generalize ([] : List Loc) = locs at hS ⊢
  refine lv_iload_n hx hb dX8_requireWithin_0 rfl (lv_at hl 0 rfl) ?_
  refine lv_iload_n hx hb dX8_requireWithin_1 rfl (lv_at hl 1 rfl) ?_
  refine lv_icmp_lt (tgt := 10) hx hb dX8_requireWithin_2 (by decide) (fun c_1 => ?_) (fun c_1 => ?_)
  · have f_2 : x < y := c_1
    exact absurd (Int32.lt_iff_toInt_lt.mp f_2) (by omega)
  · have f_3 : ¬ x < y := c_1
    refine lv_iload_n hx hb dX8_requireWithin_5 rfl (lv_at hl 0 rfl) ?_
    refine lv_iload_n hx hb dX8_requireWithin_6 rfl (lv_at hl 2 rfl) ?_
    refine lv_icmp_le (tgt := 20) hx hb dX8_requireWithin_7 (by decide) (fun c_4 => ?_) (fun c_4 => ?_)
    · have f_5 : x ≤ z := c_4
      exact xPv hx hb hr hlocks hS dX8_requireWithin_20
    · have f_6 : ¬ x ≤ z := c_4
      exact absurd (Int32.le_iff_toInt_le.mpr hx2) f_6

set_option maxHeartbeats 4000000 in
set_option maxRecDepth 100000 in
theorem c_X8_drawnAt {l : Launch} {G : GT} {H0 : Heap} (a : Nat → Nat) (v : SVT) (p : Nat) (hp : p < 64) (hP0 : PP G ([(a 0, .inr (7, [.ref (a 1), .ref (a 10), .ref (a 16), .ref (a 18), .ref (a 20), .ref (a 22), .ref (a 78), .ref (a 88)]))] ++ stW G (a 1) (a 2) (a 3) (a 4) (a 5) (a 6) (a 7) (a 8) (a 9) v) H0) : Met l yX8_drawnAt wsX8_drawnAt ({ frames := 1, cells := 0, slots := 0, locals := 21 } : Room) (pcG G [.ref (a 0), .int (nI (p))] H0) (qPi (iI (v.1 p)) H0) 0 0 noF := by
  refine enter (cc := cX8_drawnAt) (maxL := 2) (ret := some .int) (own := RX8) (lv := [(0, .ref (a 0)), (1, .int (nI (p)))]) (by decide) rfl rfl rfl (Nat.le_of_ble_eq_true rfl) ?_
  intro pg ev s m below meth c hx hb hr hts hown hlocks hml hnm hH hC ls hl
  subst hH
  have hLo : ∀ q, noF q → lo G q := fun _ h => h.elim
  have hS : va_S noF s.heap s.heap [] := va_S.rf
  generalize ([] : List Loc) = locs at hS ⊢
  have hP := hP0
  refine lv_iload_n hx hb dX8_drawnAt_0 rfl (lv_at hl 1 rfl) ?_
  refine kPv (va_runS (As := [.int (nI (p))]) (rest := []) ⟨hx, hb, hml, hown, hts⟩ (c_X8_requirePixel p (by first | assumption | omega)) (va_cwS 1 hts gX8_drawnAt_X8_requirePixel rfl rfl rfl (by decide +kernel) ⟨Nat.le_of_ble_eq_true rfl, Nat.le_of_ble_eq_true rfl⟩) (preS hC hS hLo) rfl rfl hl.1 rfl (lv_room (Nat.le_of_ble_eq_true rfl)) dX8_drawnAt_1 ⟨Nat.zero_le _, Nat.zero_le _⟩) hS (fun locs hS => ?_)
  refine lv_aload_n hx hb dX8_drawnAt_4 rfl (lv_at hl 0 rfl) ?_
  refine va_get (D := gD G) (cl := vwCl) (tys := tyl G) (ci := 7) (v := .ref (a 1)) (C := RX8) (T := TX8) (N := 8) hx hb hts (by decide +kernel) hown hC.K hP 0 rfl rfl 0 (by decide) (hts (.fieldLink RX8 12 "MotionPost" "now" "LMotionPost$State;") (by decide +kernel)) (fun _ h9 => h9) rfl dX8_drawnAt_5 ?_
  refine va_getN (D := gD G) (cl := vwCl) (tys := tyl G) (ci := 6) (v := .ref (a 2)) (C := RX7) (T := TX7) (N := 10) (host := "MotionPost") (ref := "MotionPost$State") hx hb hts (by decide +kernel) hown hC.K hP 1 rfl rfl 0 (by decide) (hC.nestW 2 rfl rfl) (fun _ h9 => h9) rfl dX8_drawnAt_8 ?_
  refine lv_iload_n hx hb dX8_drawnAt_11 rfl (lv_at hl 1 rfl) ?_
  refine kPi (va_runVN (As := [.int (nI (p))]) (rest := []) ⟨hx, hb, hml, hown, hts⟩ (c_X4_valueAt (a 2) (a 3) v.1 p (by first | assumption | omega) (hP.sub [2, 3] rfl)) ⟨va_cnB 1 hts gX8_drawnAt_X4_valueAt_n109 rfl rfl rfl (hC.nest 33 rfl) (hts (.initialized RX4) (by decide +kernel)) (by decide +kernel) ⟨Nat.le_of_ble_eq_true rfl, Nat.le_of_ble_eq_true rfl⟩, (hts (.instanceMethod yX4_valueAt) (by decide +kernel)), (hts (.selects RX4 yX4_valueAt yX4_valueAt) (by decide +kernel))⟩ (preV hC hS hLo hP (ci := 3) (q0 := 2) rfl rfl) rfl rfl hl.1 rfl (lv_room (Nat.le_of_ble_eq_true rfl)) dX8_drawnAt_12 ⟨Nat.zero_le _, Nat.zero_le _⟩) hS (fun locs hS => ?_)
  exact xPi hx hb hr hlocks hS (by exact rfl) (by exact rfl) dX8_drawnAt_15

set_option maxHeartbeats 4000000 in
set_option maxRecDepth 100000 in
theorem c_X8_sentAt {l : Launch} {G : GT} {H0 : Heap} (a : Nat → Nat) (v : SVT) (p : Nat) (hp : p < 64) (hP0 : PP G ([(a 0, .inr (7, [.ref (a 1), .ref (a 10), .ref (a 16), .ref (a 18), .ref (a 20), .ref (a 22), .ref (a 78), .ref (a 88)]))] ++ stW G (a 1) (a 2) (a 3) (a 4) (a 5) (a 6) (a 7) (a 8) (a 9) v) H0) : Met l yX8_sentAt wsX8_sentAt ({ frames := 1, cells := 0, slots := 0, locals := 21 } : Room) (pcG G [.ref (a 0), .int (nI (p))] H0) (qPi (iI (v.2.1 p)) H0) 0 0 noF := by
  refine enter (cc := cX8_sentAt) (maxL := 2) (ret := some .int) (own := RX8) (lv := [(0, .ref (a 0)), (1, .int (nI (p)))]) (by decide) rfl rfl rfl (Nat.le_of_ble_eq_true rfl) ?_
  intro pg ev s m below meth c hx hb hr hts hown hlocks hml hnm hH hC ls hl
  subst hH
  have hLo : ∀ q, noF q → lo G q := fun _ h => h.elim
  have hS : va_S noF s.heap s.heap [] := va_S.rf
  generalize ([] : List Loc) = locs at hS ⊢
  have hP := hP0
  refine lv_iload_n hx hb dX8_sentAt_0 rfl (lv_at hl 1 rfl) ?_
  refine kPv (va_runS (As := [.int (nI (p))]) (rest := []) ⟨hx, hb, hml, hown, hts⟩ (c_X8_requirePixel p (by first | assumption | omega)) (va_cwS 1 hts gX8_sentAt_X8_requirePixel rfl rfl rfl (by decide +kernel) ⟨Nat.le_of_ble_eq_true rfl, Nat.le_of_ble_eq_true rfl⟩) (preS hC hS hLo) rfl rfl hl.1 rfl (lv_room (Nat.le_of_ble_eq_true rfl)) dX8_sentAt_1 ⟨Nat.zero_le _, Nat.zero_le _⟩) hS (fun locs hS => ?_)
  refine lv_aload_n hx hb dX8_sentAt_4 rfl (lv_at hl 0 rfl) ?_
  refine va_get (D := gD G) (cl := vwCl) (tys := tyl G) (ci := 7) (v := .ref (a 1)) (C := RX8) (T := TX8) (N := 8) hx hb hts (by decide +kernel) hown hC.K hP 0 rfl rfl 0 (by decide) (hts (.fieldLink RX8 12 "MotionPost" "now" "LMotionPost$State;") (by decide +kernel)) (fun _ h9 => h9) rfl dX8_sentAt_5 ?_
  refine va_getN (D := gD G) (cl := vwCl) (tys := tyl G) (ci := 6) (v := .ref (a 4)) (C := RX7) (T := TX7) (N := 10) (host := "MotionPost") (ref := "MotionPost$State") hx hb hts (by decide +kernel) hown hC.K hP 1 rfl rfl 1 (by decide) (hC.nestW 7 rfl rfl) (fun _ h9 => h9) rfl dX8_sentAt_8 ?_
  refine lv_iload_n hx hb dX8_sentAt_11 rfl (lv_at hl 1 rfl) ?_
  refine kPi (va_runVN (As := [.int (nI (p))]) (rest := []) ⟨hx, hb, hml, hown, hts⟩ (c_X4_valueAt (a 4) (a 5) v.2.1 p (by first | assumption | omega) (hP.sub [4, 5] rfl)) ⟨va_cnB 1 hts gX8_sentAt_X4_valueAt_n109 rfl rfl rfl (hC.nest 33 rfl) (hts (.initialized RX4) (by decide +kernel)) (by decide +kernel) ⟨Nat.le_of_ble_eq_true rfl, Nat.le_of_ble_eq_true rfl⟩, (hts (.instanceMethod yX4_valueAt) (by decide +kernel)), (hts (.selects RX4 yX4_valueAt yX4_valueAt) (by decide +kernel))⟩ (preV hC hS hLo hP (ci := 3) (q0 := 4) rfl rfl) rfl rfl hl.1 rfl (lv_room (Nat.le_of_ble_eq_true rfl)) dX8_sentAt_12 ⟨Nat.zero_le _, Nat.zero_le _⟩) hS (fun locs hS => ?_)
  exact xPi hx hb hr hlocks hS (by exact rfl) (by exact rfl) dX8_sentAt_15

set_option maxHeartbeats 4000000 in
set_option maxRecDepth 100000 in
theorem c_X8_receivedAt {l : Launch} {G : GT} {H0 : Heap} (a : Nat → Nat) (v : SVT) (p : Nat) (hp : p < 64) (hP0 : PP G ([(a 0, .inr (7, [.ref (a 1), .ref (a 10), .ref (a 16), .ref (a 18), .ref (a 20), .ref (a 22), .ref (a 78), .ref (a 88)]))] ++ stW G (a 1) (a 2) (a 3) (a 4) (a 5) (a 6) (a 7) (a 8) (a 9) v) H0) : Met l yX8_receivedAt wsX8_receivedAt ({ frames := 1, cells := 0, slots := 0, locals := 21 } : Room) (pcG G [.ref (a 0), .int (nI (p))] H0) (qPi (iI (v.2.2.1 p)) H0) 0 0 noF := by
  refine enter (cc := cX8_receivedAt) (maxL := 2) (ret := some .int) (own := RX8) (lv := [(0, .ref (a 0)), (1, .int (nI (p)))]) (by decide) rfl rfl rfl (Nat.le_of_ble_eq_true rfl) ?_
  intro pg ev s m below meth c hx hb hr hts hown hlocks hml hnm hH hC ls hl
  subst hH
  have hLo : ∀ q, noF q → lo G q := fun _ h => h.elim
  have hS : va_S noF s.heap s.heap [] := va_S.rf
  generalize ([] : List Loc) = locs at hS ⊢
  have hP := hP0
  refine lv_iload_n hx hb dX8_receivedAt_0 rfl (lv_at hl 1 rfl) ?_
  refine kPv (va_runS (As := [.int (nI (p))]) (rest := []) ⟨hx, hb, hml, hown, hts⟩ (c_X8_requirePixel p (by first | assumption | omega)) (va_cwS 1 hts gX8_receivedAt_X8_requirePixel rfl rfl rfl (by decide +kernel) ⟨Nat.le_of_ble_eq_true rfl, Nat.le_of_ble_eq_true rfl⟩) (preS hC hS hLo) rfl rfl hl.1 rfl (lv_room (Nat.le_of_ble_eq_true rfl)) dX8_receivedAt_1 ⟨Nat.zero_le _, Nat.zero_le _⟩) hS (fun locs hS => ?_)
  refine lv_aload_n hx hb dX8_receivedAt_4 rfl (lv_at hl 0 rfl) ?_
  refine va_get (D := gD G) (cl := vwCl) (tys := tyl G) (ci := 7) (v := .ref (a 1)) (C := RX8) (T := TX8) (N := 8) hx hb hts (by decide +kernel) hown hC.K hP 0 rfl rfl 0 (by decide) (hts (.fieldLink RX8 12 "MotionPost" "now" "LMotionPost$State;") (by decide +kernel)) (fun _ h9 => h9) rfl dX8_receivedAt_5 ?_
  refine va_getN (D := gD G) (cl := vwCl) (tys := tyl G) (ci := 6) (v := .ref (a 6)) (C := RX7) (T := TX7) (N := 10) (host := "MotionPost") (ref := "MotionPost$State") hx hb hts (by decide +kernel) hown hC.K hP 1 rfl rfl 2 (by decide) (hC.nestW 8 rfl rfl) (fun _ h9 => h9) rfl dX8_receivedAt_8 ?_
  refine lv_iload_n hx hb dX8_receivedAt_11 rfl (lv_at hl 1 rfl) ?_
  refine kPi (va_runVN (As := [.int (nI (p))]) (rest := []) ⟨hx, hb, hml, hown, hts⟩ (c_X4_valueAt (a 6) (a 7) v.2.2.1 p (by first | assumption | omega) (hP.sub [6, 7] rfl)) ⟨va_cnB 1 hts gX8_receivedAt_X4_valueAt_n109 rfl rfl rfl (hC.nest 33 rfl) (hts (.initialized RX4) (by decide +kernel)) (by decide +kernel) ⟨Nat.le_of_ble_eq_true rfl, Nat.le_of_ble_eq_true rfl⟩, (hts (.instanceMethod yX4_valueAt) (by decide +kernel)), (hts (.selects RX4 yX4_valueAt yX4_valueAt) (by decide +kernel))⟩ (preV hC hS hLo hP (ci := 3) (q0 := 6) rfl rfl) rfl rfl hl.1 rfl (lv_room (Nat.le_of_ble_eq_true rfl)) dX8_receivedAt_12 ⟨Nat.zero_le _, Nat.zero_le _⟩) hS (fun locs hS => ?_)
  exact xPi hx hb hr hlocks hS (by exact rfl) (by exact rfl) dX8_receivedAt_15

set_option maxHeartbeats 4000000 in
set_option maxRecDepth 100000 in
theorem c_X8_error {l : Launch} {G : GT} {H0 : Heap} (a : Nat → Nat) (v : SVT) (hd : R15 v.1) (ht : R15 v.2.1) (hg : R15 v.2.2.1) (hP0 : PP G ([(a 0, .inr (7, [.ref (a 1), .ref (a 10), .ref (a 16), .ref (a 18), .ref (a 20), .ref (a 22), .ref (a 78), .ref (a 88)]))] ++ stW G (a 1) (a 2) (a 3) (a 4) (a 5) (a 6) (a 7) (a 8) (a 9) v) H0) : Met l yX8_error wsX8_error ({ frames := 1, cells := 0, slots := 0, locals := 21 } : Room) (pcG G [.ref (a 0)] H0) (qPi (iI (sZ (fun j => (v.1 j - v.2.1 j) * (v.1 j - v.2.1 j)) 64)) H0) 0 0 noF := by
  refine enter (cc := cX8_error) (maxL := 4) (ret := some .int) (own := RX8) (lv := [(0, .ref (a 0))]) (by decide) rfl rfl rfl (Nat.le_of_ble_eq_true rfl) ?_
  intro pg ev s m below meth c hx hb hr hts hown hlocks hml hnm hH hC ls hl
  subst hH
  have hLo : ∀ q, noF q → lo G q := fun _ h => h.elim
  have hS : va_S noF s.heap s.heap [] := va_S.rf
  generalize ([] : List Loc) = locs at hS ⊢
  have hP := hP0
  refine lv_iconst (v := nI (0)) hx hb dX8_error_0 (by decide) ?_
  refine lv_istore_n (lv' := [(1, .int (nI (0))), (0, .ref (a 0))]) hx hb dX8_error_1 rfl hl (by decide) rfl (fun ls hl => ?_)
  refine lv_iconst (v := nI (0)) hx hb dX8_error_2 (by decide) ?_
  refine lv_istore_n (lv' := [(2, .int (nI (0))), (1, .int (nI (0))), (0, .ref (a 0))]) hx hb dX8_error_3 rfl hl (by decide) rfl (fun ls hl => ?_)
  have L_4 : ∀ (n_4 : Nat) (i : Nat), 64 - i < n_4 → (i ≤ 64) → ∀ (locs : List Loc) (ls : Array Slot), va_S noF s.heap s.heap locs → lv_has ls 4 [(0, .ref (a 0)), (1, .int (iI (sZ (fun j => (v.1 j - v.2.1 j) * (v.1 j - v.2.1 j)) i))), (2, .int (nI (i)))] → W pg l ev ({ frames := 1, cells := 0, slots := 0, locals := 21 } : Room) s m (([.ref (a 0)] : List Value).toArray) below meth c s.heap locs 0 0 (MQ below (qPi (iI (sZ (fun j => (v.1 j - v.2.1 j) * (v.1 j - v.2.1 j)) 64)) s.heap) (([.ref (a 0)] : List Value).toArray) s 0 0 noF) (F0 m 4 ls []) := by
    intro n_4
    induction n_4 with
    | zero => intro i hn; exact absurd hn (Nat.not_lt_zero _)
    | succ n_4 ih_4 =>
      intro i hn_4 hi9 locs ls hS hl
      refine lv_iload_n hx hb dX8_error_4 rfl (lv_at hl 2 rfl) ?_
      refine lv_bipush (v := nI (64)) hx hb dX8_error_5 (by decide) ?_
      refine lv_icmp_ge (tgt := 46) hx hb dX8_error_7 (by decide) (fun c_1 => ?_) (fun c_1 => ?_)
      · have f_2 : (64 : Int) ≤ ((i : Nat) : Int) := (c_le (nI_toInt (n := 64) (by omega)) (nI_toInt (n := i) (by omega))).mp c_1
        have e_i : i = 64 := by omega
        replace e_i := e_i.symm
        subst e_i
        refine lv_iload_n hx hb dX8_error_46 rfl (lv_at hl 1 rfl) ?_
        exact xPi hx hb hr hlocks hS (by exact rfl) (by exact rfl) dX8_error_47
      · have f_3 : ¬ (64 : Int) ≤ ((i : Nat) : Int) := fun z => c_1 ((c_le (nI_toInt (n := 64) (by omega)) (nI_toInt (n := i) (by omega))).mpr z)
        refine lv_aload_n hx hb dX8_error_10 rfl (lv_at hl 0 rfl) ?_
        refine va_get (D := gD G) (cl := vwCl) (tys := tyl G) (ci := 7) (v := .ref (a 1)) (C := RX8) (T := TX8) (N := 8) hx hb hts (by decide +kernel) hown hC.K hP 0 rfl rfl 0 (by decide) (hts (.fieldLink RX8 12 "MotionPost" "now" "LMotionPost$State;") (by decide +kernel)) (fun _ h9 => h9) rfl dX8_error_11 ?_
        refine va_getN (D := gD G) (cl := vwCl) (tys := tyl G) (ci := 6) (v := .ref (a 2)) (C := RX7) (T := TX7) (N := 10) (host := "MotionPost") (ref := "MotionPost$State") hx hb hts (by decide +kernel) hown hC.K hP 1 rfl rfl 0 (by decide) (hC.nestW 2 rfl rfl) (fun _ h9 => h9) rfl dX8_error_14 ?_
        refine lv_iload_n hx hb dX8_error_17 rfl (lv_at hl 2 rfl) ?_
        refine kPi (va_runVN (As := [.int (nI (i))]) (rest := []) ⟨hx, hb, hml, hown, hts⟩ (c_X4_valueAt (a 2) (a 3) v.1 i (by first | assumption | omega) (hP.sub [2, 3] rfl)) ⟨va_cnB 1 hts gX8_error_X4_valueAt_n109 rfl rfl rfl (hC.nest 33 rfl) (hts (.initialized RX4) (by decide +kernel)) (by decide +kernel) ⟨Nat.le_of_ble_eq_true rfl, Nat.le_of_ble_eq_true rfl⟩, (hts (.instanceMethod yX4_valueAt) (by decide +kernel)), (hts (.selects RX4 yX4_valueAt yX4_valueAt) (by decide +kernel))⟩ (preV hC hS hLo hP (ci := 3) (q0 := 2) rfl rfl) rfl rfl hl.1 rfl (lv_room (Nat.le_of_ble_eq_true rfl)) dX8_error_18 ⟨Nat.zero_le _, Nat.zero_le _⟩) hS (fun locs hS => ?_)
        refine lv_aload_n hx hb dX8_error_21 rfl (lv_at hl 0 rfl) ?_
        refine va_get (D := gD G) (cl := vwCl) (tys := tyl G) (ci := 7) (v := .ref (a 1)) (C := RX8) (T := TX8) (N := 8) hx hb hts (by decide +kernel) hown hC.K hP 0 rfl rfl 0 (by decide) (hts (.fieldLink RX8 12 "MotionPost" "now" "LMotionPost$State;") (by decide +kernel)) (fun _ h9 => h9) rfl dX8_error_22 ?_
        refine va_getN (D := gD G) (cl := vwCl) (tys := tyl G) (ci := 6) (v := .ref (a 4)) (C := RX7) (T := TX7) (N := 10) (host := "MotionPost") (ref := "MotionPost$State") hx hb hts (by decide +kernel) hown hC.K hP 1 rfl rfl 1 (by decide) (hC.nestW 7 rfl rfl) (fun _ h9 => h9) rfl dX8_error_25 ?_
        refine lv_iload_n hx hb dX8_error_28 rfl (lv_at hl 2 rfl) ?_
        refine kPi (va_runVN (As := [.int (nI (i))]) (rest := [.int (iI (v.1 i))]) ⟨hx, hb, hml, hown, hts⟩ (c_X4_valueAt (a 4) (a 5) v.2.1 i (by first | assumption | omega) (hP.sub [4, 5] rfl)) ⟨va_cnB 1 hts gX8_error_X4_valueAt_n109 rfl rfl rfl (hC.nest 33 rfl) (hts (.initialized RX4) (by decide +kernel)) (by decide +kernel) ⟨Nat.le_of_ble_eq_true rfl, Nat.le_of_ble_eq_true rfl⟩, (hts (.instanceMethod yX4_valueAt) (by decide +kernel)), (hts (.selects RX4 yX4_valueAt yX4_valueAt) (by decide +kernel))⟩ (preV hC hS hLo hP (ci := 3) (q0 := 4) rfl rfl) rfl rfl hl.1 rfl (lv_room (Nat.le_of_ble_eq_true rfl)) dX8_error_29 ⟨Nat.zero_le _, Nat.zero_le _⟩) hS (fun locs hS => ?_)
        refine gSub (z := iI ((v.1 i) - (v.2.1 i))) hx hb dX8_error_32 (z_sub rfl rfl) ?_
        refine lv_istore_n (lv' := [(3, .int (iI ((v.1 i) - (v.2.1 i)))), (0, .ref (a 0)), (1, .int (iI (sZ (fun j => (v.1 j - v.2.1 j) * (v.1 j - v.2.1 j)) i))), (2, .int (nI (i)))]) hx hb dX8_error_33 rfl hl (by decide) rfl (fun ls hl => ?_)
        refine lv_iload_n hx hb dX8_error_34 rfl (lv_at hl 2 rfl) ?_
        refine lv_iload_n hx hb dX8_error_35 rfl (lv_at hl 0 rfl) ?_
        refine lv_iload_n hx hb dX8_error_36 rfl (lv_at hl 0 rfl) ?_
        refine gMul (z := iI (((v.1 i) - (v.2.1 i)) * ((v.1 i) - (v.2.1 i)))) hx hb dX8_error_37 (z_mul rfl rfl) ?_
        refine gAdd (z := iI ((sZ (fun j => (v.1 j - v.2.1 j) * (v.1 j - v.2.1 j)) i) + (((v.1 i) - (v.2.1 i)) * ((v.1 i) - (v.2.1 i))))) hx hb dX8_error_38 (z_add rfl rfl) ?_
        refine lv_istore_n (lv' := [(1, .int (iI ((sZ (fun j => (v.1 j - v.2.1 j) * (v.1 j - v.2.1 j)) i) + (((v.1 i) - (v.2.1 i)) * ((v.1 i) - (v.2.1 i)))))), (3, .int (iI ((v.1 i) - (v.2.1 i)))), (0, .ref (a 0)), (2, .int (nI (i)))]) hx hb dX8_error_39 rfl hl (by decide) rfl (fun ls hl => ?_)
        refine lv_iinc (v := nI (i + 1)) (lv' := [(2, .int (nI (i + 1))), (1, .int (iI ((sZ (fun j => (v.1 j - v.2.1 j) * (v.1 j - v.2.1 j)) i) + (((v.1 i) - (v.2.1 i)) * ((v.1 i) - (v.2.1 i)))))), (3, .int (iI ((v.1 i) - (v.2.1 i)))), (0, .ref (a 0))]) hx hb dX8_error_40 hl (k := 3) rfl (inc_p i 1) (by decide) rfl (fun ls hl => ?_)
        refine lv_goto (tgt := 4) hx hb dX8_error_43 (by decide) ?_
        exact ih_4 (i + 1) (by omega) (by omega) locs ls hS (lv_sub hl [3, 1, 0] ((lvc rfl (lvc (congrArg Value.int (rfl)) (lvc rfl rfl)))))
  exact L_4 (64 + 1) 0 (Nat.lt_succ_self _) (by omega) locs ls hS (lv_sub hl [2, 1, 0] (lvc rfl (lvc (congrArg Value.int (rfl)) (lvc rfl rfl))))
