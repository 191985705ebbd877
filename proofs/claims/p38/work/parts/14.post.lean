set_option maxHeartbeats 4000000 in
set_option maxRecDepth 100000 in
theorem c_X8_requirePixel {l : Launch} {G : GT} {H0 : Heap} (p : Nat) (hp : p < 64) : Met l yX8_requirePixel wsX8_requirePixel ({ frames := 0, cells := 0, slots := 0, locals := 0 } : Room) (pcG G [.int (nI (p))] H0) (qPv H0) 0 0 noF := by
  refine enter (cc := cX8_requirePixel) (maxL := 1) (ret := none) (own := RX8) (lv := [(0, .int (nI (p)))]) (by decide) rfl rfl rfl (Nat.le_of_ble_eq_true rfl) ?_
  intro pg ev s m below meth c hx hb hr hts hown hlocks hml hnm hH hC ls hl
  subst hH
  have hLo : ∀ q, noF q → lo G q := fun _ h => h.elim
  have hS : va_S noF s.heap s.heap [] := va_S.rf
  generalize ([] : List Loc) = locs at hS ⊢
  refine lv_iload_n hx hb dX8_requirePixel_0 rfl (lv_at hl 0 rfl) ?_
  refine lv_if_lt (tgt := 10) hx hb dX8_requirePixel_1 (by decide) (fun c_1 => ?_) (fun c_1 => ?_)
  · have f_2 : ((p : Nat) : Int) < (0 : Int) := (c_lt (nI_toInt (n := p) (by omega)) rfl).mp c_1
    exfalso; omega
  · have f_3 : ¬ ((p : Nat) : Int) < (0 : Int) := fun z => c_1 ((c_lt (nI_toInt (n := p) (by omega)) rfl).mpr z)
    refine lv_iload_n hx hb dX8_requirePixel_4 rfl (lv_at hl 0 rfl) ?_
    refine lv_bipush (v := nI (64)) hx hb dX8_requirePixel_5 (by decide) ?_
    refine lv_icmp_lt (tgt := 20) hx hb dX8_requirePixel_7 (by decide) (fun c_4 => ?_) (fun c_4 => ?_)
    · have f_5 : ((p : Nat) : Int) < (64 : Int) := (c_lt (nI_toInt (n := p) (by omega)) (nI_toInt (n := 64) (by omega))).mp c_4
      exact xPv hx hb hr hlocks hS dX8_requirePixel_20
    · have f_6 : ¬ ((p : Nat) : Int) < (64 : Int) := fun z => c_4 ((c_lt (nI_toInt (n := p) (by omega)) (nI_toInt (n := 64) (by omega))).mpr z)
      exfalso; omega

set_option maxHeartbeats 4000000 in
set_option maxRecDepth 100000 in
theorem c_X8_requireBlock {l : Launch} {G : GT} {H0 : Heap} (p : Nat) (hp : p < 4) : Met l yX8_requireBlock wsX8_requireBlock ({ frames := 0, cells := 0, slots := 0, locals := 0 } : Room) (pcG G [.int (nI (p))] H0) (qPv H0) 0 0 noF := by
  refine enter (cc := cX8_requireBlock) (maxL := 1) (ret := none) (own := RX8) (lv := [(0, .int (nI (p)))]) (by decide) rfl rfl rfl (Nat.le_of_ble_eq_true rfl) ?_
  intro pg ev s m below meth c hx hb hr hts hown hlocks hml hnm hH hC ls hl
  subst hH
  have hLo : ∀ q, noF q → lo G q := fun _ h => h.elim
  have hS : va_S noF s.heap s.heap [] := va_S.rf
  generalize ([] : List Loc) = locs at hS ⊢
  refine lv_iload_n hx hb dX8_requireBlock_0 rfl (lv_at hl 0 rfl) ?_
  refine lv_if_lt (tgt := 9) hx hb dX8_requireBlock_1 (by decide) (fun c_1 => ?_) (fun c_1 => ?_)
  · have f_2 : ((p : Nat) : Int) < (0 : Int) := (c_lt (nI_toInt (n := p) (by omega)) rfl).mp c_1
    exfalso; omega
  · have f_3 : ¬ ((p : Nat) : Int) < (0 : Int) := fun z => c_1 ((c_lt (nI_toInt (n := p) (by omega)) rfl).mpr z)
    refine lv_iload_n hx hb dX8_requireBlock_4 rfl (lv_at hl 0 rfl) ?_
    refine lv_iconst (v := nI (4)) hx hb dX8_requireBlock_5 (by decide) ?_
    refine lv_icmp_lt (tgt := 19) hx hb dX8_requireBlock_6 (by decide) (fun c_4 => ?_) (fun c_4 => ?_)
    · have f_5 : ((p : Nat) : Int) < (4 : Int) := (c_lt (nI_toInt (n := p) (by omega)) (nI_toInt (n := 4) (by omega))).mp c_4
      exact xPv hx hb hr hlocks hS dX8_requireBlock_19
    · have f_6 : ¬ ((p : Nat) : Int) < (4 : Int) := fun z => c_4 ((c_lt (nI_toInt (n := p) (by omega)) (nI_toInt (n := 4) (by omega))).mpr z)
      exfalso; omega

set_option maxHeartbeats 4000000 in
set_option maxRecDepth 100000 in
theorem c_X8_requireWithin {l : Launch} {G : GT} {H0 : Heap} (x y z : Int32) (hx1 : y.toInt ≤ x.toInt) (hx2 : x.toInt ≤ z.toInt) : Met l yX8_requireWithin wsX8_requireWithin ({ frames := 0, cells := 0, slots := 0, locals := 0 } : Room) (pcG G [.int (x), .int (y), .int (z)] H0) (qPv H0) 0 0 noF := by
  refine enter (cc := cX8_requireWithin) (maxL := 3) (ret := none) (own := RX8) (lv := [(0, .int (x)), (1, .int (y)), (2, .int (z))]) (by decide) rfl rfl rfl (Nat.le_of_ble_eq_true rfl) ?_
  intro pg ev s m below meth c hx hb hr hts hown hlocks hml hnm hH hC ls hl
  subst hH
  have hLo : ∀ q, noF q → lo G q := fun _ h => h.elim
  have hS : va_S noF s.heap s.heap [] := va_S.rf
  generalize ([] : List Loc) = locs at hS ⊢
  refine lv_iload_n hx hb dX8_requireWithin_0 rfl (lv_at hl 0 rfl) ?_
  refine lv_iload_n hx hb dX8_requireWithin_1 rfl (lv_at hl 1 rfl) ?_
  refine lv_icmp_lt (tgt := 10) hx hb dX8_requireWithin_2 (by decide) (fun c_1 => ?_) (fun c_1 => ?_)
  · have f_2 : x < y := c_1
    exact absurd (Int32.lt_iff_toInt_lt.mp f_2) (by omega)
  · have f_3 : ¬ x < y := c_1
    refine lv_iload_n hx hb dX8_requireWithin_5 rfl (lv_at hl 0 rfl) ?_
    refine lv_iload_n hx hb dX8_requireWithin_6 rfl (lv_at hl 2 rfl) ?_
    refine lv_icmp_le (tgt := 20) hx hb dX8_requireWithin_7 (by decide) (fun c_4 => ?_) (fun c_4 => ?_)
    · have f_5 : x ≤ z := c_4
      exact xPv hx hb hr hlocks hS dX8_requireWithin_20
    · have f_6 : ¬ x ≤ z := c_4
      exact absurd (Int32.le_iff_toInt_le.mpr hx2) f_6

set_option maxHeartbeats 4000000 in
set_option maxRecDepth 100000 in
theorem c_X8_drawnAt {l : Launch} {G : GT} {H0 : Heap} (a : Nat → Nat) (v : SVT) (p : Nat) (hp : p < 64) (hP0 : PP G ([(a 0, .inr (7, [.ref (a 1), .ref (a 10), .ref (a 16), .ref (a 18), .ref (a 20), .ref (a 22), .ref (a 78), .ref (a 88)]))] ++ stW G (a 1) (a 2) (a 3) (a 4) (a 5) (a 6) (a 7) (a 8) (a 9) v) H0) : Met l yX8_drawnAt wsX8_drawnAt ({ frames := 1, cells := 0, slots := 0, locals := 21 } : Room) (pcG G [.ref (a 0), .int (nI (p))] H0) (qPi (iI (v.1 p)) H0) 0 0 noF := by
  refine enter (cc := cX8_drawnAt) (maxL := 2) (ret := some .int) (own := RX8) (lv := [(0, .ref (a 0)), (1, .int (nI (p)))]) (by decide) rfl rfl rfl (Nat.le_of_ble_eq_true rfl) ?_
  intro pg ev s m below meth c hx hb hr hts hown hlocks hml hnm hH hC ls hl
  subst hH
  have hLo : ∀ q, noF q → lo G q := fun _ h => h.elim
  have hS : va_S noF s.heap s.heap [] := va_S.rf
  generalize ([] : List Loc) = locs at hS ⊢
  have hP := hP0
  refine lv_iload_n hx hb dX8_drawnAt_0 rfl (lv_at hl 1 rfl) ?_
  refine kPv (va_runS (As := [.int (nI (p))]) (rest := []) ⟨hx, hb, hml, hown, hts⟩ (c_X8_requirePixel p (by first | assumption | omega)) (va_cwS 1 hts gX8_drawnAt_X8_requirePixel rfl rfl rfl (by decide +kernel) ⟨Nat.le_of_ble_eq_true rfl, Nat.le_of_ble_eq_true rfl⟩) (preS hC hS hLo) rfl rfl hl.1 rfl (lv_room (Nat.le_of_ble_eq_true rfl)) dX8_drawnAt_1 ⟨Nat.zero_le _, Nat.zero_le _⟩) hS (fun locs hS => ?_)
  refine lv_aload_n hx hb dX8_drawnAt_4 rfl (lv_at hl 0 rfl) ?_
  refine va_get (D := gD G) (cl := vwCl) (tys := tyl G) (ci := 7) (v := .ref (a 1)) (C := RX8) (T := TX8) (N := 8) hx hb hts (by decide +kernel) hown hC.K hP 0 rfl rfl 0 (by decide) (hts (.fieldLink RX8 12 "MotionPost" "now" "LMotionPost$State;") (by decide +kernel)) (fun _ h9 => h9) rfl dX8_drawnAt_5 ?_
  refine va_getN (D := gD G) (cl := vwCl) (tys := tyl G) (ci := 6) (v := .ref (a 2)) (C := RX7) (T := TX7) (N := 10) (host := "MotionPost") (ref := "MotionPost$State") hx hb hts (by decide +kernel) hown hC.K hP 1 rfl rfl 0 (by decide) (hC.nestW 2 rfl rfl) (fun _ h9 => h9) rfl dX8_drawnAt_8 ?_
  refine lv_iload_n hx hb dX8_drawnAt_11 rfl (lv_at hl 1 rfl) ?_
  refine kPi (va_runVN (As := [.int (nI (p))]) (rest := []) ⟨hx, hb, hml, hown, hts⟩ (c_X4_valueAt (a 2) (a 3) v.1 p (by first | assumption | omega) (hP.sub [2, 3] rfl)) ⟨va_cnB 1 hts gX8_drawnAt_X4_valueAt_n109 rfl rfl rfl (hC.nest 33 rfl) (hts (.initialized RX4) (by decide +kernel)) (by decide +kernel) ⟨Nat.le_of_ble_eq_true rfl, Nat.le_of_ble_eq_true rfl⟩, (hts (.instanceMethod yX4_valueAt) (by decide +kernel)), (hts (.selects RX4 yX4_valueAt yX4_valueAt) (by decide +kernel))⟩ (preV hC hS hLo hP (ci := 3) (q0 := 2) rfl rfl) rfl rfl hl.1 rfl (lv_room (Nat.le_of_ble_eq_true rfl)) dX8_drawnAt_12 ⟨Nat.zero_le _, Nat.zero_le _⟩) hS (fun locs hS => ?_)
  exact xPi hx hb hr hlocks hS (by exact rfl) (by exact rfl) dX8_drawnAt_15

set_option maxHeartbeats 4000000 in
set_option maxRecDepth 100000 in
theorem c_X8_sentAt {l : Launch} {G : GT} {H0 : Heap} (a : Nat → Nat) (v : SVT) (p : Nat) (hp : p < 64) (hP0 : PP G ([(a 0, .inr (7, [.ref (a 1), .ref (a 10), .ref (a 16), .ref (a 18), .ref (a 20), .ref (a 22), .ref (a 78), .ref (a 88)]))] ++ stW G (a 1) (a 2) (a 3) (a 4) (a 5) (a 6) (a 7) (a 8) (a 9) v) H0) : Met l yX8_sentAt wsX8_sentAt ({ frames := 1, cells := 0, slots := 0, locals := 21 } : Room) (pcG G [.ref (a 0), .int (nI (p))] H0) (qPi (iI (v.2.1 p)) H0) 0 0 noF := by
  refine enter (cc := cX8_sentAt) (maxL := 2) (ret := some .int) (own := RX8) (lv := [(0, .ref (a 0)), (1, .int (nI (p)))]) (by decide) rfl rfl rfl (Nat.le_of_ble_eq_true rfl) ?_
  intro pg ev s m below meth c hx hb hr hts hown hlocks hml hnm hH hC ls hl
  subst hH
  have hLo : ∀ q, noF q → lo G q := fun _ h => h.elim
  have hS : va_S noF s.heap s.heap [] := va_S.rf
  generalize ([] : List Loc) = locs at hS ⊢
  have hP := hP0
  refine lv_iload_n hx hb dX8_sentAt_0 rfl (lv_at hl 1 rfl) ?_
  refine kPv (va_runS (As := [.int (nI (p))]) (rest := []) ⟨hx, hb, hml, hown, hts⟩ (c_X8_requirePixel p (by first | assumption | omega)) (va_cwS 1 hts gX8_sentAt_X8_requirePixel rfl rfl rfl (by decide +kernel) ⟨Nat.le_of_ble_eq_true rfl, Nat.le_of_ble_eq_true rfl⟩) (preS hC hS hLo) rfl rfl hl.1 rfl (lv_room (Nat.le_of_ble_eq_true rfl)) dX8_sentAt_1 ⟨Nat.zero_le _, Nat.zero_le _⟩) hS (fun locs hS => ?_)
  refine lv_aload_n hx hb dX8_sentAt_4 rfl (lv_at hl 0 rfl) ?_
  refine va_get (D := gD G) (cl := vwCl) (tys := tyl G) (ci := 7) (v := .ref (a 1)) (C := RX8) (T := TX8) (N := 8) hx hb hts (by decide +kernel) hown hC.K hP 0 rfl rfl 0 (by decide) (hts (.fieldLink RX8 12 "MotionPost" "now" "LMotionPost$State;") (by decide +kernel)) (fun _ h9 => h9) rfl dX8_sentAt_5 ?_
  refine va_getN (D := gD G) (cl := vwCl) (tys := tyl G) (ci := 6) (v := .ref (a 4)) (C := RX7) (T := TX7) (N := 10) (host := "MotionPost") (ref := "MotionPost$State") hx hb hts (by decide +kernel) hown hC.K hP 1 rfl rfl 1 (by decide) (hC.nestW 7 rfl rfl) (fun _ h9 => h9) rfl dX8_sentAt_8 ?_
  refine lv_iload_n hx hb dX8_sentAt_11 rfl (lv_at hl 1 rfl) ?_
  refine kPi (va_runVN (As := [.int (nI (p))]) (rest := []) ⟨hx, hb, hml, hown, hts⟩ (c_X4_valueAt (a 4) (a 5) v.2.1 p (by first | assumption | omega) (hP.sub [4, 5] rfl)) ⟨va_cnB 1 hts gX8_sentAt_X4_valueAt_n109 rfl rfl rfl (hC.nest 33 rfl) (hts (.initialized RX4) (by decide +kernel)) (by decide +kernel) ⟨Nat.le_of_ble_eq_true rfl, Nat.le_of_ble_eq_true rfl⟩, (hts (.instanceMethod yX4_valueAt) (by decide +kernel)), (hts (.selects RX4 yX4_valueAt yX4_valueAt) (by decide +kernel))⟩ (preV hC hS hLo hP (ci := 3) (q0 := 4) rfl rfl) rfl rfl hl.1 rfl (lv_room (Nat.le_of_ble_eq_true rfl)) dX8_sentAt_12 ⟨Nat.zero_le _, Nat.zero_le _⟩) hS (fun locs hS => ?_)
  exact xPi hx hb hr hlocks hS (by exact rfl) (by exact rfl) dX8_sentAt_15

set_option maxHeartbeats 4000000 in
set_option maxRecDepth 100000 in
theorem c_X8_receivedAt {l : Launch} {G : GT} {H0 : Heap} (a : Nat → Nat) (v : SVT) (p : Nat) (hp : p < 64) (hP0 : PP G ([(a 0, .inr (7, [.ref (a 1), .ref (a 10), .ref (a 16), .ref (a 18), .ref (a 20), .ref (a 22), .ref (a 78), .ref (a 88)]))] ++ stW G (a 1) (a 2) (a 3) (a 4) (a 5) (a 6) (a 7) (a 8) (a 9) v) H0) : Met l yX8_receivedAt wsX8_receivedAt ({ frames := 1, cells := 0, slots := 0, locals := 21 } : Room) (pcG G [.ref (a 0), .int (nI (p))] H0) (qPi (iI (v.2.2.1 p)) H0) 0 0 noF := by
  refine enter (cc := cX8_receivedAt) (maxL := 2) (ret := some .int) (own := RX8) (lv := [(0, .ref (a 0)), (1, .int (nI (p)))]) (by decide) rfl rfl rfl (Nat.le_of_ble_eq_true rfl) ?_
  intro pg ev s m below meth c hx hb hr hts hown hlocks hml hnm hH hC ls hl
  subst hH
  have hLo : ∀ q, noF q → lo G q := fun _ h => h.elim
  have hS : va_S noF s.heap s.heap [] := va_S.rf
  generalize ([] : List Loc) = locs at hS ⊢
  have hP := hP0
  refine lv_iload_n hx hb dX8_receivedAt_0 rfl (lv_at hl 1 rfl) ?_
  refine kPv (va_runS (As := [.int (nI (p))]) (rest := []) ⟨hx, hb, hml, hown, hts⟩ (c_X8_requirePixel p (by first | assumption | omega)) (va_cwS 1 hts gX8_receivedAt_X8_requirePixel rfl rfl rfl (by decide +kernel) ⟨Nat.le_of_ble_eq_true rfl, Nat.le_of_ble_eq_true rfl⟩) (preS hC hS hLo) rfl rfl hl.1 rfl (lv_room (Nat.le_of_ble_eq_true rfl)) dX8_receivedAt_1 ⟨Nat.zero_le _, Nat.zero_le _⟩) hS (fun locs hS => ?_)
  refine lv_aload_n hx hb dX8_receivedAt_4 rfl (lv_at hl 0 rfl) ?_
  refine va_get (D := gD G) (cl := vwCl) (tys := tyl G) (ci := 7) (v := .ref (a 1)) (C := RX8) (T := TX8) (N := 8) hx hb hts (by decide +kernel) hown hC.K hP 0 rfl rfl 0 (by decide) (hts (.fieldLink RX8 12 "MotionPost" "now" "LMotionPost$State;") (by decide +kernel)) (fun _ h9 => h9) rfl dX8_receivedAt_5 ?_
  refine va_getN (D := gD G) (cl := vwCl) (tys := tyl G) (ci := 6) (v := .ref (a 6)) (C := RX7) (T := TX7) (N := 10) (host := "MotionPost") (ref := "MotionPost$State") hx hb hts (by decide +kernel) hown hC.K hP 1 rfl rfl 2 (by decide) (hC.nestW 8 rfl rfl) (fun _ h9 => h9) rfl dX8_receivedAt_8 ?_
  refine lv_iload_n hx hb dX8_receivedAt_11 rfl (lv_at hl 1 rfl) ?_
  refine kPi (va_runVN (As := [.int (nI (p))]) (rest := []) ⟨hx, hb, hml, hown, hts⟩ (c_X4_valueAt (a 6) (a 7) v.2.2.1 p (by first | assumption | omega) (hP.sub [6, 7] rfl)) ⟨va_cnB 1 hts gX8_receivedAt_X4_valueAt_n109 rfl rfl rfl (hC.nest 33 rfl) (hts (.initialized RX4) (by decide +kernel)) (by decide +kernel) ⟨Nat.le_of_ble_eq_true rfl, Nat.le_of_ble_eq_true rfl⟩, (hts (.instanceMethod yX4_valueAt) (by decide +kernel)), (hts (.selects RX4 yX4_valueAt yX4_valueAt) (by decide +kernel))⟩ (preV hC hS hLo hP (ci := 3) (q0 := 6) rfl rfl) rfl rfl hl.1 rfl (lv_room (Nat.le_of_ble_eq_true rfl)) dX8_receivedAt_12 ⟨Nat.zero_le _, Nat.zero_le _⟩) hS (fun locs hS => ?_)
  exact xPi hx hb hr hlocks hS (by exact rfl) (by exact rfl) dX8_receivedAt_15

set_option maxHeartbeats 4000000 in
set_option maxRecDepth 100000 in
theorem c_X8_error {l : Launch} {G : GT} {H0 : Heap} (a : Nat → Nat) (v : SVT) (hd : R15 v.1) (ht : R15 v.2.1) (hg : R15 v.2.2.1) (hP0 : PP G ([(a 0, .inr (7, [.ref (a 1), .ref (a 10), .ref (a 16), .ref (a 18), .ref (a 20), .ref (a 22), .ref (a 78), .ref (a 88)]))] ++ stW G (a 1) (a 2) (a 3) (a 4) (a 5) (a 6) (a 7) (a 8) (a 9) v) H0) : Met l yX8_error wsX8_error ({ frames := 1, cells := 0, slots := 0, locals := 21 } : Room) (pcG G [.ref (a 0)] H0) (qPi (iI (sZ (fun j => (v.1 j - v.2.1 j) * (v.1 j - v.2.1 j)) 64)) H0) 0 0 noF := by
  refine enter (cc := cX8_error) (maxL := 4) (ret := some .int) (own := RX8) (lv := [(0, .ref (a 0))]) (by decide) rfl rfl rfl (Nat.le_of_ble_eq_true rfl) ?_
  intro pg ev s m below meth c hx hb hr hts hown hlocks hml hnm hH hC ls hl
  subst hH
  have hLo : ∀ q, noF q → lo G q := fun _ h => h.elim
  have hS : va_S noF s.heap s.heap [] := va_S.rf
  generalize ([] : List Loc) = locs at hS ⊢
  have hP := hP0
  refine lv_iconst (v := nI (0)) hx hb dX8_error_0 (by decide) ?_
  refine lv_istore_n (lv' := [(1, .int (nI (0))), (0, .ref (a 0))]) hx hb dX8_error_1 rfl hl (by decide) rfl (fun ls hl => ?_)
  refine lv_iconst (v := nI (0)) hx hb dX8_error_2 (by decide) ?_
  refine lv_istore_n (lv' := [(2, .int (nI (0))), (1, .int (nI (0))), (0, .ref (a 0))]) hx hb dX8_error_3 rfl hl (by decide) rfl (fun ls hl => ?_)
  have L_4 : ∀ (n_4 : Nat) (i : Nat), 64 - i < n_4 → (i ≤ 64) → ∀ (locs : List Loc) (ls : Array Slot), va_S noF s.heap s.heap locs → lv_has ls 4 [(0, .ref (a 0)), (1, .int (iI (sZ (fun j => (v.1 j - v.2.1 j) * (v.1 j - v.2.1 j)) i))), (2, .int (nI (i)))] → W pg l ev ({ frames := 1, cells := 0, slots := 0, locals := 21 } : Room) s m (([.ref (a 0)] : List Value).toArray) below meth c s.heap locs 0 0 (MQ below (qPi (iI (sZ (fun j => (v.1 j - v.2.1 j) * (v.1 j - v.2.1 j)) 64)) s.heap) (([.ref (a 0)] : List Value).toArray) s 0 0 noF) (F0 m 4 ls []) := by
    intro n_4
    induction n_4 with
    | zero => intro i hn; exact absurd hn (Nat.not_lt_zero _)
    | succ n_4 ih_4 =>
      intro i hn_4 hi9 locs ls hS hl
      refine lv_iload_n hx hb dX8_error_4 rfl (lv_at hl 2 rfl) ?_
      refine lv_bipush (v := nI (64)) hx hb dX8_error_5 (by decide) ?_
      refine lv_icmp_ge (tgt := 46) hx hb dX8_error_7 (by decide) (fun c_1 => ?_) (fun c_1 => ?_)
      · have f_2 : (64 : Int) ≤ ((i : Nat) : Int) := (c_le (nI_toInt (n := 64) (by omega)) (nI_toInt (n := i) (by omega))).mp c_1
        have e_i : i = 64 := by omega
        replace e_i := e_i.symm
        subst e_i
        refine lv_iload_n hx hb dX8_error_46 rfl (lv_at hl 1 rfl) ?_
        exact xPi hx hb hr hlocks hS (by exact rfl) (by exact rfl) dX8_error_47
      · have f_3 : ¬ (64 : Int) ≤ ((i : Nat) : Int) := fun z => c_1 ((c_le (nI_toInt (n := 64) (by omega)) (nI_toInt (n := i) (by omega))).mpr z)
        refine lv_aload_n hx hb dX8_error_10 rfl (lv_at hl 0 rfl) ?_
        refine va_get (D := gD G) (cl := vwCl) (tys := tyl G) (ci := 7) (v := .ref (a 1)) (C := RX8) (T := TX8) (N := 8) hx hb hts (by decide +kernel) hown hC.K hP 0 rfl rfl 0 (by decide) (hts (.fieldLink RX8 12 "MotionPost" "now" "LMotionPost$State;") (by decide +kernel)) (fun _ h9 => h9) rfl dX8_error_11 ?_
        refine va_getN (D := gD G) (cl := vwCl) (tys := tyl G) (ci := 6) (v := .ref (a 2)) (C := RX7) (T := TX7) (N := 10) (host := "MotionPost") (ref := "MotionPost$State") hx hb hts (by decide +kernel) hown hC.K hP 1 rfl rfl 0 (by decide) (hC.nestW 2 rfl rfl) (fun _ h9 => h9) rfl dX8_error_14 ?_
        refine lv_iload_n hx hb dX8_error_17 rfl (lv_at hl 2 rfl) ?_
        refine kPi (va_runVN (As := [.int (nI (i))]) (rest := []) ⟨hx, hb, hml, hown, hts⟩ (c_X4_valueAt (a 2) (a 3) v.1 i (by first | assumption | omega) (hP.sub [2, 3] rfl)) ⟨va_cnB 1 hts gX8_error_X4_valueAt_n109 rfl rfl rfl (hC.nest 33 rfl) (hts (.initialized RX4) (by decide +kernel)) (by decide +kernel) ⟨Nat.le_of_ble_eq_true rfl, Nat.le_of_ble_eq_true rfl⟩, (hts (.instanceMethod yX4_valueAt) (by decide +kernel)), (hts (.selects RX4 yX4_valueAt yX4_valueAt) (by decide +kernel))⟩ (preV hC hS hLo hP (ci := 3) (q0 := 2) rfl rfl) rfl rfl hl.1 rfl (lv_room (Nat.le_of_ble_eq_true rfl)) dX8_error_18 ⟨Nat.zero_le _, Nat.zero_le _⟩) hS (fun locs hS => ?_)
        refine lv_aload_n hx hb dX8_error_21 rfl (lv_at hl 0 rfl) ?_
        refine va_get (D := gD G) (cl := vwCl) (tys := tyl G) (ci := 7) (v := .ref (a 1)) (C := RX8) (T := TX8) (N := 8) hx hb hts (by decide +kernel) hown hC.K hP 0 rfl rfl 0 (by decide) (hts (.fieldLink RX8 12 "MotionPost" "now" "LMotionPost$State;") (by decide +kernel)) (fun _ h9 => h9) rfl dX8_error_22 ?_
        refine va_getN (D := gD G) (cl := vwCl) (tys := tyl G) (ci := 6) (v := .ref (a 4)) (C := RX7) (T := TX7) (N := 10) (host := "MotionPost") (ref := "MotionPost$State") hx hb hts (by decide +kernel) hown hC.K hP 1 rfl rfl 1 (by decide) (hC.nestW 7 rfl rfl) (fun _ h9 => h9) rfl dX8_error_25 ?_
        refine lv_iload_n hx hb dX8_error_28 rfl (lv_at hl 2 rfl) ?_
        refine kPi (va_runVN (As := [.int (nI (i))]) (rest := [.int (iI (v.1 i))]) ⟨hx, hb, hml, hown, hts⟩ (c_X4_valueAt (a 4) (a 5) v.2.1 i (by first | assumption | omega) (hP.sub [4, 5] rfl)) ⟨va_cnB 1 hts gX8_error_X4_valueAt_n109 rfl rfl rfl (hC.nest 33 rfl) (hts (.initialized RX4) (by decide +kernel)) (by decide +kernel) ⟨Nat.le_of_ble_eq_true rfl, Nat.le_of_ble_eq_true rfl⟩, (hts (.instanceMethod yX4_valueAt) (by decide +kernel)), (hts (.selects RX4 yX4_valueAt yX4_valueAt) (by decide +kernel))⟩ (preV hC hS hLo hP (ci := 3) (q0 := 4) rfl rfl) rfl rfl hl.1 rfl (lv_room (Nat.le_of_ble_eq_true rfl)) dX8_error_29 ⟨Nat.zero_le _, Nat.zero_le _⟩) hS (fun locs hS => ?_)
        refine gSub (z := iI ((v.1 i) - (v.2.1 i))) hx hb dX8_error_32 (z_sub rfl rfl) ?_
        refine lv_istore_n (lv' := [(3, .int (iI ((v.1 i) - (v.2.1 i)))), (0, .ref (a 0)), (1, .int (iI (sZ (fun j => (v.1 j - v.2.1 j) * (v.1 j - v.2.1 j)) i))), (2, .int (nI (i)))]) hx hb dX8_error_33 rfl hl (by decide) rfl (fun ls hl => ?_)
        refine lv_iload_n hx hb dX8_error_34 rfl (lv_at hl 2 rfl) ?_
        refine lv_iload_n hx hb dX8_error_35 rfl (lv_at hl 0 rfl) ?_
        refine lv_iload_n hx hb dX8_error_36 rfl (lv_at hl 0 rfl) ?_
        refine gMul (z := iI (((v.1 i) - (v.2.1 i)) * ((v.1 i) - (v.2.1 i)))) hx hb dX8_error_37 (z_mul rfl rfl) ?_
        refine gAdd (z := iI ((sZ (fun j => (v.1 j - v.2.1 j) * (v.1 j - v.2.1 j)) i) + (((v.1 i) - (v.2.1 i)) * ((v.1 i) - (v.2.1 i))))) hx hb dX8_error_38 (z_add rfl rfl) ?_
        refine lv_istore_n (lv' := [(1, .int (iI ((sZ (fun j => (v.1 j - v.2.1 j) * (v.1 j - v.2.1 j)) i) + (((v.1 i) - (v.2.1 i)) * ((v.1 i) - (v.2.1 i)))))), (3, .int (iI ((v.1 i) - (v.2.1 i)))), (0, .ref (a 0)), (2, .int (nI (i)))]) hx hb dX8_error_39 rfl hl (by decide) rfl (fun ls hl => ?_)
        refine lv_iinc (v := nI (i + 1)) (lv' := [(2, .int (nI (i + 1))), (1, .int (iI ((sZ (fun j => (v.1 j - v.2.1 j) * (v.1 j - v.2.1 j)) i) + (((v.1 i) - (v.2.1 i)) * ((v.1 i) - (v.2.1 i)))))), (3, .int (iI ((v.1 i) - (v.2.1 i)))), (0, .ref (a 0))]) hx hb dX8_error_40 hl (k := 3) rfl (inc_p i 1) (by decide) rfl (fun ls hl => ?_)
        refine lv_goto (tgt := 4) hx hb dX8_error_43 (by decide) ?_
        exact ih_4 (i + 1) (by omega) (by omega) locs ls hS (lv_sub hl [3, 1, 0] ((lvc rfl (lvc (congrArg Value.int (rfl)) (lvc rfl rfl)))))
  exact L_4 (64 + 1) 0 (Nat.lt_succ_self _) (by omega) locs ls hS (lv_sub hl [2, 1, 0] (lvc rfl (lvc (congrArg Value.int (rfl)) (lvc rfl rfl))))

set_option maxHeartbeats 4000000 in
set_option maxRecDepth 100000 in
theorem c_X8_drift {l : Launch} {G : GT} {H0 : Heap} (a : Nat → Nat) (v : SVT) (hd : R15 v.1) (ht : R15 v.2.1) (hg : R15 v.2.2.1) (hP0 : PP G ([(a 0, .inr (7, [.ref (a 1), .ref (a 10), .ref (a 16), .ref (a 18), .ref (a 20), .ref (a 22), .ref (a 78), .ref (a 88)]))] ++ stW G (a 1) (a 2) (a 3) (a 4) (a 5) (a 6) (a 7) (a 8) (a 9) v) H0) : Met l yX8_drift wsX8_drift ({ frames := 1, cells := 0, slots := 0, locals := 21 } : Room) (pcG G [.ref (a 0)] H0) (qPi (iI (sZ (fun j => ((v.2.1 j - v.2.2.1 j).natAbs : Int)) 64)) H0) 0 0 noF := by
  refine enter (cc := cX8_drift) (maxL := 3) (ret := some .int) (own := RX8) (lv := [(0, .ref (a 0))]) (by decide) rfl rfl rfl (Nat.le_of_ble_eq_true rfl) ?_
  intro pg ev s m below meth c hx hb hr hts hown hlocks hml hnm hH hC ls hl
  subst hH
  have hLo : ∀ q, noF q → lo G q := fun _ h => h.elim
  have hS : va_S noF s.heap s.heap [] := va_S.rf
  generalize ([] : List Loc) = locs at hS ⊢
  have hP := hP0
  refine lv_iconst (v := nI (0)) hx hb dX8_drift_0 (by decide) ?_
  refine lv_istore_n (lv' := [(1, .int (nI (0))), (0, .ref (a 0))]) hx hb dX8_drift_1 rfl hl (by decide) rfl (fun ls hl => ?_)
  refine lv_iconst (v := nI (0)) hx hb dX8_drift_2 (by decide) ?_
  refine lv_istore_n (lv' := [(2, .int (nI (0))), (1, .int (nI (0))), (0, .ref (a 0))]) hx hb dX8_drift_3 rfl hl (by decide) rfl (fun ls hl => ?_)
  have L_4 : ∀ (n_4 : Nat) (i : Nat), 64 - i < n_4 → (i ≤ 64) → ∀ (locs : List Loc) (ls : Array Slot), va_S noF s.heap s.heap locs → lv_has ls 3 [(0, .ref (a 0)), (1, .int (iI (sZ (fun j => ((v.2.1 j - v.2.2.1 j).natAbs : Int)) i))), (2, .int (nI (i)))] → W pg l ev ({ frames := 1, cells := 0, slots := 0, locals := 21 } : Room) s m (([.ref (a 0)] : List Value).toArray) below meth c s.heap locs 0 0 (MQ below (qPi (iI (sZ (fun j => ((v.2.1 j - v.2.2.1 j).natAbs : Int)) 64)) s.heap) (([.ref (a 0)] : List Value).toArray) s 0 0 noF) (F0 m 4 ls []) := by
    intro n_4
    induction n_4 with
    | zero => intro i hn; exact absurd hn (Nat.not_lt_zero _)
    | succ n_4 ih_4 =>
      intro i hn_4 hi9 locs ls hS hl
      refine lv_iload_n hx hb dX8_drift_4 rfl (lv_at hl 2 rfl) ?_
      refine lv_bipush (v := nI (64)) hx hb dX8_drift_5 (by decide) ?_
      refine lv_icmp_ge (tgt := 45) hx hb dX8_drift_7 (by decide) (fun c_1 => ?_) (fun c_1 => ?_)
      · have f_2 : (64 : Int) ≤ ((i : Nat) : Int) := (c_le (nI_toInt (n := 64) (by omega)) (nI_toInt (n := i) (by omega))).mp c_1
        have e_i : i = 64 := by omega
        replace e_i := e_i.symm
        subst e_i
        refine lv_iload_n hx hb dX8_drift_45 rfl (lv_at hl 1 rfl) ?_
        exact xPi hx hb hr hlocks hS (by exact rfl) (by exact rfl) dX8_drift_46
      · have f_3 : ¬ (64 : Int) ≤ ((i : Nat) : Int) := fun z => c_1 ((c_le (nI_toInt (n := 64) (by omega)) (nI_toInt (n := i) (by omega))).mpr z)
        refine lv_iload_n hx hb dX8_drift_10 rfl (lv_at hl 1 rfl) ?_
        refine lv_aload_n hx hb dX8_drift_11 rfl (lv_at hl 0 rfl) ?_
        refine va_get (D := gD G) (cl := vwCl) (tys := tyl G) (ci := 7) (v := .ref (a 1)) (C := RX8) (T := TX8) (N := 8) hx hb hts (by decide +kernel) hown hC.K hP 0 rfl rfl 0 (by decide) (hts (.fieldLink RX8 12 "MotionPost" "now" "LMotionPost$State;") (by decide +kernel)) (fun _ h9 => h9) rfl dX8_drift_12 ?_
        refine va_getN (D := gD G) (cl := vwCl) (tys := tyl G) (ci := 6) (v := .ref (a 4)) (C := RX7) (T := TX7) (N := 10) (host := "MotionPost") (ref := "MotionPost$State") hx hb hts (by decide +kernel) hown hC.K hP 1 rfl rfl 1 (by decide) (hC.nestW 7 rfl rfl) (fun _ h9 => h9) rfl dX8_drift_15 ?_
        refine lv_iload_n hx hb dX8_drift_18 rfl (lv_at hl 2 rfl) ?_
        refine kPi (va_runVN (As := [.int (nI (i))]) (rest := [.int (iI (sZ (fun j => ((v.2.1 j - v.2.2.1 j).natAbs : Int)) i))]) ⟨hx, hb, hml, hown, hts⟩ (c_X4_valueAt (a 4) (a 5) v.2.1 i (by first | assumption | omega) (hP.sub [4, 5] rfl)) ⟨va_cnB 1 hts gX8_drift_X4_valueAt_n109 rfl rfl rfl (hC.nest 33 rfl) (hts (.initialized RX4) (by decide +kernel)) (by decide +kernel) ⟨Nat.le_of_ble_eq_true rfl, Nat.le_of_ble_eq_true rfl⟩, (hts (.instanceMethod yX4_valueAt) (by decide +kernel)), (hts (.selects RX4 yX4_valueAt yX4_valueAt) (by decide +kernel))⟩ (preV hC hS hLo hP (ci := 3) (q0 := 4) rfl rfl) rfl rfl hl.1 rfl (lv_room (Nat.le_of_ble_eq_true rfl)) dX8_drift_19 ⟨Nat.zero_le _, Nat.zero_le _⟩) hS (fun locs hS => ?_)
        refine lv_aload_n hx hb dX8_drift_22 rfl (lv_at hl 0 rfl) ?_
        refine va_get (D := gD G) (cl := vwCl) (tys := tyl G) (ci := 7) (v := .ref (a 1)) (C := RX8) (T := TX8) (N := 8) hx hb hts (by decide +kernel) hown hC.K hP 0 rfl rfl 0 (by decide) (hts (.fieldLink RX8 12 "MotionPost" "now" "LMotionPost$State;") (by decide +kernel)) (fun _ h9 => h9) rfl dX8_drift_23 ?_
        refine va_getN (D := gD G) (cl := vwCl) (tys := tyl G) (ci := 6) (v := .ref (a 6)) (C := RX7) (T := TX7) (N := 10) (host := "MotionPost") (ref := "MotionPost$State") hx hb hts (by decide +kernel) hown hC.K hP 1 rfl rfl 2 (by decide) (hC.nestW 8 rfl rfl) (fun _ h9 => h9) rfl dX8_drift_26 ?_
        refine lv_iload_n hx hb dX8_drift_29 rfl (lv_at hl 2 rfl) ?_
        refine kPi (va_runVN (As := [.int (nI (i))]) (rest := [.int (iI (v.2.1 i)), .int (iI (sZ (fun j => ((v.2.1 j - v.2.2.1 j).natAbs : Int)) i))]) ⟨hx, hb, hml, hown, hts⟩ (c_X4_valueAt (a 6) (a 7) v.2.2.1 i (by first | assumption | omega) (hP.sub [6, 7] rfl)) ⟨va_cnB 1 hts gX8_drift_X4_valueAt_n109 rfl rfl rfl (hC.nest 33 rfl) (hts (.initialized RX4) (by decide +kernel)) (by decide +kernel) ⟨Nat.le_of_ble_eq_true rfl, Nat.le_of_ble_eq_true rfl⟩, (hts (.instanceMethod yX4_valueAt) (by decide +kernel)), (hts (.selects RX4 yX4_valueAt yX4_valueAt) (by decide +kernel))⟩ (preV hC hS hLo hP (ci := 3) (q0 := 6) rfl rfl) rfl rfl hl.1 rfl (lv_room (Nat.le_of_ble_eq_true rfl)) dX8_drift_30 ⟨Nat.zero_le _, Nat.zero_le _⟩) hS (fun locs hS => ?_)
        have hq1 := ht i
        have hq2 := hg i
        refine gSub (z := iI ((v.2.1 i) - (v.2.2.1 i))) hx hb dX8_drift_33 (z_sub rfl rfl) ?_
        refine va_mabs hx hb (hml.trans hl.1.symm) hown (hts (.methodLink RX8 119 Lib.Math.abs.name) (by decide +kernel)) (hts (.static Lib.Math.abs.name) (by decide +kernel)) (hts (.initialized "java/lang/Math") (by decide +kernel)) (hts (.code Lib.Math.abs.name Lib.Math.abs.code 1 (some .int)) (by decide +kernel)) (Nat.le_of_ble_eq_true rfl) (Nat.le_of_ble_eq_true rfl) (Nat.zero_le _) (Nat.zero_le _) dX8_drift_34 ?_
        refine topE (v' := iI ((Int.natAbs ((v.2.1 i) - (v.2.2.1 i)) : Int))) (ab_z (by omega) (by omega)) ?_
        refine gAdd (z := iI ((sZ (fun j => ((v.2.1 j - v.2.2.1 j).natAbs : Int)) i) + ((Int.natAbs ((v.2.1 i) - (v.2.2.1 i)) : Int)))) hx hb dX8_drift_37 (z_add rfl rfl) ?_
        refine lv_istore_n (lv' := [(1, .int (iI ((sZ (fun j => ((v.2.1 j - v.2.2.1 j).natAbs : Int)) i) + ((Int.natAbs ((v.2.1 i) - (v.2.2.1 i)) : Int))))), (0, .ref (a 0)), (2, .int (nI (i)))]) hx hb dX8_drift_38 rfl hl (by decide) rfl (fun ls hl => ?_)
        refine lv_iinc (v := nI (i + 1)) (lv' := [(2, .int (nI (i + 1))), (1, .int (iI ((sZ (fun j => ((v.2.1 j - v.2.2.1 j).natAbs : Int)) i) + ((Int.natAbs ((v.2.1 i) - (v.2.2.1 i)) : Int))))), (0, .ref (a 0))]) hx hb dX8_drift_39 hl (k := 2) rfl (inc_p i 1) (by decide) rfl (fun ls hl => ?_)
        refine lv_goto (tgt := 4) hx hb dX8_drift_42 (by decide) ?_
        exact ih_4 (i + 1) (by omega) (by omega) locs ls hS (lv_sub hl [2, 1, 0] ((lvc rfl (lvc (congrArg Value.int (rfl)) (lvc rfl rfl)))))
  exact L_4 (64 + 1) 0 (Nat.lt_succ_self _) (by omega) locs ls hS (lv_sub hl [2, 1, 0] (lvc rfl (lvc (congrArg Value.int (rfl)) (lvc rfl rfl))))

set_option maxHeartbeats 4000000 in
set_option maxRecDepth 100000 in
theorem c_X8_distance {l : Launch} {G : GT} {H0 : Heap} (a : Nat → Nat) (v : SVT) (b mv : Nat) (hd : R15 v.1) (ht : R15 v.2.1) (hb4 : b < 4) (hm : mv < 25) (hP0 : PP G ([(a 0, .inr (7, [.ref (a 1), .ref (a 10), .ref (a 16), .ref (a 18), .ref (a 20), .ref (a 22), .ref (a 78), .ref (a 88)]))] ++ stW G (a 1) (a 2) (a 3) (a 4) (a 5) (a 6) (a 7) (a 8) (a 9) v) H0) : Met l yX8_distance wsX8_distance ({ frames := 2, cells := 0, slots := 0, locals := 52 } : Room) (pcG G [.ref (a 0), .int (nI (b)), .int (nI (mv))] H0) (qPi (iI (DIST v.1 v.2.1 b mv)) H0) 0 0 noF := by
  refine enter (cc := cX8_distance) (maxL := 3) (ret := some .int) (own := RX8) (lv := [(0, .ref (a 0)), (1, .int (nI (b))), (2, .int (nI (mv)))]) (by decide) rfl rfl rfl (Nat.le_of_ble_eq_true rfl) ?_
  intro pg ev s m below meth c hx hb hr hts hown hlocks hml hnm hH hC ls hl
  subst hH
  have hLo : ∀ q, noF q → lo G q := fun _ h => h.elim
  have hS : va_S noF s.heap s.heap [] := va_S.rf
  generalize ([] : List Loc) = locs at hS ⊢
  have hP := hP0
  refine lv_iload_n hx hb dX8_distance_0 rfl (lv_at hl 1 rfl) ?_
  refine kPv (va_runS (As := [.int (nI (b))]) (rest := []) ⟨hx, hb, hml, hown, hts⟩ (c_X8_requireBlock b (by first | assumption | omega)) (va_cwS 1 hts gX8_distance_X8_requireBlock rfl rfl rfl (by decide +kernel) ⟨Nat.le_of_ble_eq_true rfl, Nat.le_of_ble_eq_true rfl⟩) (preS hC hS hLo) rfl rfl hl.1 rfl (lv_room (Nat.le_of_ble_eq_true rfl)) dX8_distance_1 ⟨Nat.zero_le _, Nat.zero_le _⟩) hS (fun locs hS => ?_)
  refine lv_iload_n hx hb dX8_distance_4 rfl (lv_at hl 2 rfl) ?_
  refine lv_if_lt (tgt := 14) hx hb dX8_distance_5 (by decide) (fun c_1 => ?_) (fun c_1 => ?_)
  · have f_2 : ((mv : Nat) : Int) < (0 : Int) := (c_lt (nI_toInt (n := mv) (by omega)) rfl).mp c_1
    exfalso; omega
  · have f_3 : ¬ ((mv : Nat) : Int) < (0 : Int) := fun z => c_1 ((c_lt (nI_toInt (n := mv) (by omega)) rfl).mpr z)
    refine lv_iload_n hx hb dX8_distance_8 rfl (lv_at hl 2 rfl) ?_
    refine lv_bipush (v := nI (25)) hx hb dX8_distance_9 (by decide) ?_
    refine lv_icmp_lt (tgt := 24) hx hb dX8_distance_11 (by decide) (fun c_4 => ?_) (fun c_4 => ?_)
    · have f_5 : ((mv : Nat) : Int) < (25 : Int) := (c_lt (nI_toInt (n := mv) (by omega)) (nI_toInt (n := 25) (by omega))).mp c_4
      refine lv_aload_n hx hb dX8_distance_24 rfl (lv_at hl 0 rfl) ?_
      refine va_get (D := gD G) (cl := vwCl) (tys := tyl G) (ci := 7) (v := .ref (a 1)) (C := RX8) (T := TX8) (N := 8) hx hb hts (by decide +kernel) hown hC.K hP 0 rfl rfl 0 (by decide) (hts (.fieldLink RX8 12 "MotionPost" "now" "LMotionPost$State;") (by decide +kernel)) (fun _ h9 => h9) rfl dX8_distance_25 ?_
      refine lv_iload_n hx hb dX8_distance_28 rfl (lv_at hl 1 rfl) ?_
      refine lv_iload_n hx hb dX8_distance_29 rfl (lv_at hl 2 rfl) ?_
      refine kPi (va_runSN (As := [.ref (a 1), .int (nI (b)), .int (nI (mv))]) (rest := []) ⟨hx, hb, hml, hown, hts⟩ (c_X3_distanceBy (a 1) (a 2) (a 3) (a 4) (a 5) (a 6) (a 7) (a 8) (a 9) v.1 v.2.1 v.2.2.1 v.2.2.2.1 v.2.2.2.2.1 v.2.2.2.2.2.1 v.2.2.2.2.2.2.1 v.2.2.2.2.2.2.2.1 v.2.2.2.2.2.2.2.2.1 v.2.2.2.2.2.2.2.2.2 b mv (by first | assumption | omega) (by first | assumption | omega) (by first | assumption | omega) (by first | assumption | omega) (hP.sub [1, 2, 3, 4, 5, 6, 7, 8, 9] rfl)) ⟨va_cnB 3 hts gX8_distance_X3_distanceBy_n132 rfl rfl rfl (hC.nest 61 rfl) (hts (.initialized RX3) (by decide +kernel)) (by decide +kernel) ⟨Nat.le_of_ble_eq_true rfl, Nat.le_of_ble_eq_true rfl⟩, (hts (.static yX3_distanceBy) (by decide +kernel)), trivial⟩ (preS hC hS hLo) rfl rfl hl.1 rfl (lv_room (Nat.le_of_ble_eq_true rfl)) dX8_distance_30 ⟨Nat.zero_le _, Nat.zero_le _⟩) hS (fun locs hS => ?_)
      exact xPi hx hb hr hlocks hS (by exact rfl) (by exact rfl) dX8_distance_33
    · have f_6 : ¬ ((mv : Nat) : Int) < (25 : Int) := fun z => c_4 ((c_lt (nI_toInt (n := mv) (by omega)) (nI_toInt (n := 25) (by omega))).mpr z)
      exfalso; omega

set_option maxHeartbeats 4000000 in
set_option maxRecDepth 100000 in
theorem c_X8_bestMove {l : Launch} {G : GT} {H0 : Heap} (a : Nat → Nat) (v : SVT) (b : Nat) (hd : R15 v.1) (ht : R15 v.2.1) (hb4 : b < 4) (hP0 : PP G ([(a 0, .inr (7, [.ref (a 1), .ref (a 10), .ref (a 16), .ref (a 18), .ref (a 20), .ref (a 22), .ref (a 78), .ref (a 88)]))] ++ stW G (a 1) (a 2) (a 3) (a 4) (a 5) (a 6) (a 7) (a 8) (a 9) v) H0) : Met l yX8_bestMove wsX8_bestMove ({ frames := 3, cells := 0, slots := 0, locals := 77 } : Room) (pcG G [.ref (a 0), .int (nI (b))] H0) (qPi (nI (BEST v.1 v.2.1 b)) H0) 0 0 noF := by
  refine enter (cc := cX8_bestMove) (maxL := 2) (ret := some .int) (own := RX8) (lv := [(0, .ref (a 0)), (1, .int (nI (b)))]) (by decide) rfl rfl rfl (Nat.le_of_ble_eq_true rfl) ?_
  intro pg ev s m below meth c hx hb hr hts hown hlocks hml hnm hH hC ls hl
  subst hH
  have hLo : ∀ q, noF q → lo G q := fun _ h => h.elim
  have hS : va_S noF s.heap s.heap [] := va_S.rf
  generalize ([] : List Loc) = locs at hS ⊢
  have hP := hP0
  refine lv_iload_n hx hb dX8_bestMove_0 rfl (lv_at hl 1 rfl) ?_
  refine kPv (va_runS (As := [.int (nI (b))]) (rest := []) ⟨hx, hb, hml, hown, hts⟩ (c_X8_requireBlock b (by first | assumption | omega)) (va_cwS 1 hts gX8_bestMove_X8_requireBlock rfl rfl rfl (by decide +kernel) ⟨Nat.le_of_ble_eq_true rfl, Nat.le_of_ble_eq_true rfl⟩) (preS hC hS hLo) rfl rfl hl.1 rfl (lv_room (Nat.le_of_ble_eq_true rfl)) dX8_bestMove_1 ⟨Nat.zero_le _, Nat.zero_le _⟩) hS (fun locs hS => ?_)
  refine lv_aload_n hx hb dX8_bestMove_4 rfl (lv_at hl 0 rfl) ?_
  refine va_get (D := gD G) (cl := vwCl) (tys := tyl G) (ci := 7) (v := .ref (a 1)) (C := RX8) (T := TX8) (N := 8) hx hb hts (by decide +kernel) hown hC.K hP 0 rfl rfl 0 (by decide) (hts (.fieldLink RX8 12 "MotionPost" "now" "LMotionPost$State;") (by decide +kernel)) (fun _ h9 => h9) rfl dX8_bestMove_5 ?_
  refine lv_iload_n hx hb dX8_bestMove_8 rfl (lv_at hl 1 rfl) ?_
  refine kPi (va_runSN (As := [.ref (a 1), .int (nI (b))]) (rest := []) ⟨hx, hb, hml, hown, hts⟩ (c_X3_bestByLooking (a 1) (a 2) (a 3) (a 4) (a 5) (a 6) (a 7) (a 8) (a 9) v.1 v.2.1 v.2.2.1 v.2.2.2.1 v.2.2.2.2.1 v.2.2.2.2.2.1 v.2.2.2.2.2.2.1 v.2.2.2.2.2.2.2.1 v.2.2.2.2.2.2.2.2.1 v.2.2.2.2.2.2.2.2.2 b (by first | assumption | omega) (by first | assumption | omega) (by first | assumption | omega) (hP.sub [1, 2, 3, 4, 5, 6, 7, 8, 9] rfl)) ⟨va_cnB 2 hts gX8_bestMove_X3_bestByLooking_n138 rfl rfl rfl (hC.nest 62 rfl) (hts (.initialized RX3) (by decide +kernel)) (by decide +kernel) ⟨Nat.le_of_ble_eq_true rfl, Nat.le_of_ble_eq_true rfl⟩, (hts (.static yX3_bestByLooking) (by decide +kernel)), trivial⟩ (preS hC hS hLo) rfl rfl hl.1 rfl (lv_room (Nat.le_of_ble_eq_true rfl)) dX8_bestMove_9 ⟨Nat.zero_le _, Nat.zero_le _⟩) hS (fun locs hS => ?_)
  exact xPi hx hb hr hlocks hS (by exact rfl) (by exact rfl) dX8_bestMove_12

set_option maxHeartbeats 4000000 in
set_option maxRecDepth 100000 in
theorem c_X8_bestMoveByStopping {l : Launch} {G : GT} {H0 : Heap} (a : Nat → Nat) (v : SVT) (b : Nat) (hd : R15 v.1) (ht : R15 v.2.1) (hb4 : b < 4) (hP0 : PP G ([(a 0, .inr (7, [.ref (a 1), .ref (a 10), .ref (a 16), .ref (a 18), .ref (a 20), .ref (a 22), .ref (a 78), .ref (a 88)]))] ++ stW G (a 1) (a 2) (a 3) (a 4) (a 5) (a 6) (a 7) (a 8) (a 9) v) H0) : Met l yX8_bestMoveByStopping wsX8_bestMoveByStopping ({ frames := 3, cells := 0, slots := 0, locals := 80 } : Room) (pcG G [.ref (a 0), .int (nI (b))] H0) (qPi (nI ((bsS v.1 v.2.1 b 25).1)) H0) 0 0 noF := by
  refine enter (cc := cX8_bestMoveByStopping) (maxL := 2) (ret := some .int) (own := RX8) (lv := [(0, .ref (a 0)), (1, .int (nI (b)))]) (by decide) rfl rfl rfl (Nat.le_of_ble_eq_true rfl) ?_
  intro pg ev s m below meth c hx hb hr hts hown hlocks hml hnm hH hC ls hl
  subst hH
  have hLo : ∀ q, noF q → lo G q := fun _ h => h.elim
  have hS : va_S noF s.heap s.heap [] := va_S.rf
  generalize ([] : List Loc) = locs at hS ⊢
  have hP := hP0
  refine lv_iload_n hx hb dX8_bestMoveByStopping_0 rfl (lv_at hl 1 rfl) ?_
  refine kPv (va_runS (As := [.int (nI (b))]) (rest := []) ⟨hx, hb, hml, hown, hts⟩ (c_X8_requireBlock b (by first | assumption | omega)) (va_cwS 1 hts gX8_bestMoveByStopping_X8_requireBlock rfl rfl rfl (by decide +kernel) ⟨Nat.le_of_ble_eq_true rfl, Nat.le_of_ble_eq_true rfl⟩) (preS hC hS hLo) rfl rfl hl.1 rfl (lv_room (Nat.le_of_ble_eq_true rfl)) dX8_bestMoveByStopping_1 ⟨Nat.zero_le _, Nat.zero_le _⟩) hS (fun locs hS => ?_)
  refine lv_aload_n hx hb dX8_bestMoveByStopping_4 rfl (lv_at hl 0 rfl) ?_
  refine va_get (D := gD G) (cl := vwCl) (tys := tyl G) (ci := 7) (v := .ref (a 1)) (C := RX8) (T := TX8) (N := 8) hx hb hts (by decide +kernel) hown hC.K hP 0 rfl rfl 0 (by decide) (hts (.fieldLink RX8 12 "MotionPost" "now" "LMotionPost$State;") (by decide +kernel)) (fun _ h9 => h9) rfl dX8_bestMoveByStopping_5 ?_
  refine lv_iload_n hx hb dX8_bestMoveByStopping_8 rfl (lv_at hl 1 rfl) ?_
  refine kPi (va_runSN (As := [.ref (a 1), .int (nI (b))]) (rest := []) ⟨hx, hb, hml, hown, hts⟩ (c_X3_bestByStopping (a 1) (a 2) (a 3) (a 4) (a 5) (a 6) (a 7) (a 8) (a 9) v.1 v.2.1 v.2.2.1 v.2.2.2.1 v.2.2.2.2.1 v.2.2.2.2.2.1 v.2.2.2.2.2.2.1 v.2.2.2.2.2.2.2.1 v.2.2.2.2.2.2.2.2.1 v.2.2.2.2.2.2.2.2.2 b (by first | assumption | omega) (by first | assumption | omega) (by first | assumption | omega) (hP.sub [1, 2, 3, 4, 5, 6, 7, 8, 9] rfl)) ⟨va_cnB 2 hts gX8_bestMoveByStopping_X3_bestByStopping_n142 rfl rfl rfl (hC.nest 63 rfl) (hts (.initialized RX3) (by decide +kernel)) (by decide +kernel) ⟨Nat.le_of_ble_eq_true rfl, Nat.le_of_ble_eq_true rfl⟩, (hts (.static yX3_bestByStopping) (by decide +kernel)), trivial⟩ (preS hC hS hLo) rfl rfl hl.1 rfl (lv_room (Nat.le_of_ble_eq_true rfl)) dX8_bestMoveByStopping_9 ⟨Nat.zero_le _, Nat.zero_le _⟩) hS (fun locs hS => ?_)
  exact xPi hx hb hr hlocks hS (by exact rfl) (by exact rfl) dX8_bestMoveByStopping_12

set_option maxHeartbeats 4000000 in
set_option maxRecDepth 100000 in
theorem c_X8_equalMoves {l : Launch} {G : GT} {H0 : Heap} (a : Nat → Nat) (v : SVT) (b : Nat) (hd : R15 v.1) (ht : R15 v.2.1) (hb4 : b < 4) (hP0 : PP G ([(a 0, .inr (7, [.ref (a 1), .ref (a 10), .ref (a 16), .ref (a 18), .ref (a 20), .ref (a 22), .ref (a 78), .ref (a 88)]))] ++ stW G (a 1) (a 2) (a 3) (a 4) (a 5) (a 6) (a 7) (a 8) (a 9) v) H0) : Met l yX8_equalMoves wsX8_equalMoves ({ frames := 3, cells := 0, slots := 0, locals := 77 } : Room) (pcG G [.ref (a 0), .int (nI (b))] H0) (qPi (nI ((cnt (DIST v.1 v.2.1 b) 25).1)) H0) 0 0 noF := by
  refine enter (cc := cX8_equalMoves) (maxL := 2) (ret := some .int) (own := RX8) (lv := [(0, .ref (a 0)), (1, .int (nI (b)))]) (by decide) rfl rfl rfl (Nat.le_of_ble_eq_true rfl) ?_
  intro pg ev s m below meth c hx hb hr hts hown hlocks hml hnm hH hC ls hl
  subst hH
  have hLo : ∀ q, noF q → lo G q := fun _ h => h.elim
  have hS : va_S noF s.heap s.heap [] := va_S.rf
  generalize ([] : List Loc) = locs at hS ⊢
  have hP := hP0
  refine lv_iload_n hx hb dX8_equalMoves_0 rfl (lv_at hl 1 rfl) ?_
  refine kPv (va_runS (As := [.int (nI (b))]) (rest := []) ⟨hx, hb, hml, hown, hts⟩ (c_X8_requireBlock b (by first | assumption | omega)) (va_cwS 1 hts gX8_equalMoves_X8_requireBlock rfl rfl rfl (by decide +kernel) ⟨Nat.le_of_ble_eq_true rfl, Nat.le_of_ble_eq_true rfl⟩) (preS hC hS hLo) rfl rfl hl.1 rfl (lv_room (Nat.le_of_ble_eq_true rfl)) dX8_equalMoves_1 ⟨Nat.zero_le _, Nat.zero_le _⟩) hS (fun locs hS => ?_)
  refine lv_aload_n hx hb dX8_equalMoves_4 rfl (lv_at hl 0 rfl) ?_
  refine va_get (D := gD G) (cl := vwCl) (tys := tyl G) (ci := 7) (v := .ref (a 1)) (C := RX8) (T := TX8) (N := 8) hx hb hts (by decide +kernel) hown hC.K hP 0 rfl rfl 0 (by decide) (hts (.fieldLink RX8 12 "MotionPost" "now" "LMotionPost$State;") (by decide +kernel)) (fun _ h9 => h9) rfl dX8_equalMoves_5 ?_
  refine lv_iload_n hx hb dX8_equalMoves_8 rfl (lv_at hl 1 rfl) ?_
  refine kPi (va_runSN (As := [.ref (a 1), .int (nI (b))]) (rest := []) ⟨hx, hb, hml, hown, hts⟩ (c_X3_countBest (a 1) (a 2) (a 3) (a 4) (a 5) (a 6) (a 7) (a 8) (a 9) v.1 v.2.1 v.2.2.1 v.2.2.2.1 v.2.2.2.2.1 v.2.2.2.2.2.1 v.2.2.2.2.2.2.1 v.2.2.2.2.2.2.2.1 v.2.2.2.2.2.2.2.2.1 v.2.2.2.2.2.2.2.2.2 b (by first | assumption | omega) (by first | assumption | omega) (by first | assumption | omega) (hP.sub [1, 2, 3, 4, 5, 6, 7, 8, 9] rfl)) ⟨va_cnB 2 hts gX8_equalMoves_X3_countBest_n145 rfl rfl rfl (hC.nest 64 rfl) (hts (.initialized RX3) (by decide +kernel)) (by decide +kernel) ⟨Nat.le_of_ble_eq_true rfl, Nat.le_of_ble_eq_true rfl⟩, (hts (.static yX3_countBest) (by decide +kernel)), trivial⟩ (preS hC hS hLo) rfl rfl hl.1 rfl (lv_room (Nat.le_of_ble_eq_true rfl)) dX8_equalMoves_9 ⟨Nat.zero_le _, Nat.zero_le _⟩) hS (fun locs hS => ?_)
  exact xPi hx hb hr hlocks hS (by exact rfl) (by exact rfl) dX8_equalMoves_12

set_option maxHeartbeats 4000000 in
set_option maxRecDepth 100000 in
theorem c_X8_isKeyNext {l : Launch} {G : GT} {H0 : Heap} (a : Nat → Nat) (v : SVT) (hkd : 1 ≤ v.2.2.2.2.2.2.1 ∧ v.2.2.2.2.2.2.1 ≤ 20) (hpi : v.2.2.2.2.2.2.2.1 ≤ 999) (hP0 : PP G ([(a 0, .inr (7, [.ref (a 1), .ref (a 10), .ref (a 16), .ref (a 18), .ref (a 20), .ref (a 22), .ref (a 78), .ref (a 88)]))] ++ stW G (a 1) (a 2) (a 3) (a 4) (a 5) (a 6) (a 7) (a 8) (a 9) v) H0) : Met l yX8_isKeyNext wsX8_isKeyNext ({ frames := 1, cells := 0, slots := 0, locals := 20 } : Room) (pcG G [.ref (a 0)] H0) (qPi (bI (v.2.2.2.2.2.2.2.1 % v.2.2.2.2.2.2.1 = 0)) H0) 0 0 noF := by
  refine enter (cc := cX8_isKeyNext) (maxL := 1) (ret := some .boolean) (own := RX8) (lv := [(0, .ref (a 0))]) (by decide) rfl rfl rfl (Nat.le_of_ble_eq_true rfl) ?_
  intro pg ev s m below meth c hx hb hr hts hown hlocks hml hnm hH hC ls hl
  subst hH
  have hLo : ∀ q, noF q → lo G q := fun _ h => h.elim
  have hS : va_S noF s.heap s.heap [] := va_S.rf
  generalize ([] : List Loc) = locs at hS ⊢
  have hP := hP0
  refine lv_aload_n hx hb dX8_isKeyNext_0 rfl (lv_at hl 0 rfl) ?_
  refine va_get (D := gD G) (cl := vwCl) (tys := tyl G) (ci := 7) (v := .ref (a 1)) (C := RX8) (T := TX8) (N := 8) hx hb hts (by decide +kernel) hown hC.K hP 0 rfl rfl 0 (by decide) (hts (.fieldLink RX8 12 "MotionPost" "now" "LMotionPost$State;") (by decide +kernel)) (fun _ h9 => h9) rfl dX8_isKeyNext_1 ?_
  refine kPi (va_runVN (As := []) (rest := []) ⟨hx, hb, hml, hown, hts⟩ (c_X7_isKeyDue (a 1) (a 2) (a 3) (a 4) (a 5) (a 6) (a 7) (a 8) (a 9) v.1 v.2.1 v.2.2.1 v.2.2.2.1 v.2.2.2.2.1 v.2.2.2.2.2.1 v.2.2.2.2.2.2.1 v.2.2.2.2.2.2.2.1 v.2.2.2.2.2.2.2.2.1 v.2.2.2.2.2.2.2.2.2 (by first | assumption | omega) (by first | assumption | omega) (hP.sub [1, 2, 3, 4, 5, 6, 7, 8, 9] rfl)) ⟨va_cnB 0 hts gX8_isKeyNext_X7_isKeyDue_n148 rfl rfl rfl (hC.nest 34 rfl) (hts (.initialized RX7) (by decide +kernel)) (by decide +kernel) ⟨Nat.le_of_ble_eq_true rfl, Nat.le_of_ble_eq_true rfl⟩, (hts (.instanceMethod yX7_isKeyDue) (by decide +kernel)), (hts (.selects RX7 yX7_isKeyDue yX7_isKeyDue) (by decide +kernel))⟩ (preV hC hS hLo hP (ci := 6) (q0 := 1) rfl rfl) rfl rfl hl.1 rfl (lv_room (Nat.le_of_ble_eq_true rfl)) dX8_isKeyNext_4 ⟨Nat.zero_le _, Nat.zero_le _⟩) hS (fun locs hS => ?_)
  exact xPi hx hb hr hlocks hS (by exact rfl) (by exact bI_n _) dX8_isKeyNext_7

set_option maxHeartbeats 4000000 in
set_option maxRecDepth 100000 in
theorem c_X8_maySend {l : Launch} {G : GT} {H0 : Heap} (a : Nat → Nat) (v : SVT) (hkd : 1 ≤ v.2.2.2.2.2.2.1 ∧ v.2.2.2.2.2.2.1 ≤ 20) (hpi : v.2.2.2.2.2.2.2.1 ≤ 999) (hP0 : PP G ([(a 0, .inr (7, [.ref (a 1), .ref (a 10), .ref (a 16), .ref (a 18), .ref (a 20), .ref (a 22), .ref (a 78), .ref (a 88)]))] ++ stW G (a 1) (a 2) (a 3) (a 4) (a 5) (a 6) (a 7) (a 8) (a 9) v) H0) : Met l yX8_maySend wsX8_maySend ({ frames := 0, cells := 0, slots := 0, locals := 0 } : Room) (pcG G [.ref (a 0)] H0) (qPi (bI (v.2.2.2.2.2.2.2.1 < 999)) H0) 0 0 noF := by
  refine enter (cc := cX8_maySend) (maxL := 1) (ret := some .boolean) (own := RX8) (lv := [(0, .ref (a 0))]) (by decide) rfl rfl rfl (Nat.le_of_ble_eq_true rfl) ?_
  intro pg ev s m below meth c hx hb hr hts hown hlocks hml hnm hH hC ls hl
  subst hH
  have hLo : ∀ q, noF q → lo G q := fun _ h => h.elim
  have hS : va_S noF s.heap s.heap [] := va_S.rf
  generalize ([] : List Loc) = locs at hS ⊢
  have hP := hP0
  refine lv_aload_n hx hb dX8_maySend_0 rfl (lv_at hl 0 rfl) ?_
  refine va_get (D := gD G) (cl := vwCl) (tys := tyl G) (ci := 7) (v := .ref (a 1)) (C := RX8) (T := TX8) (N := 8) hx hb hts (by decide +kernel) hown hC.K hP 0 rfl rfl 0 (by decide) (hts (.fieldLink RX8 12 "MotionPost" "now" "LMotionPost$State;") (by decide +kernel)) (fun _ h9 => h9) rfl dX8_maySend_1 ?_
  refine va_getN (D := gD G) (cl := vwCl) (tys := tyl G) (ci := 6) (v := .int (nI (v.2.2.2.2.2.2.2.1))) (C := RX7) (T := TX7) (N := 10) (host := "MotionPost") (ref := "MotionPost$State") hx hb hts (by decide +kernel) hown hC.K hP 1 rfl rfl 7 (by decide) (hC.nestW 14 rfl rfl) (fun _ h9 => h9) rfl dX8_maySend_4 ?_
  refine lv_sipush (v := nI (999)) hx hb dX8_maySend_7 (by decide) ?_
  refine lv_icmp_ge (tgt := 17) hx hb dX8_maySend_10 (by decide) (fun c_1 => ?_) (fun c_1 => ?_)
  · have f_2 : (999 : Int) ≤ ((v.2.2.2.2.2.2.2.1 : Nat) : Int) := (c_le (nI_toInt (n := 999) (by omega)) (nI_toInt (n := v.2.2.2.2.2.2.2.1) (by omega))).mp c_1
    refine lv_iconst (v := nI (0)) hx hb dX8_maySend_17 (by decide) ?_
    exact xPi hx hb hr hlocks hS (by exact (by first | exact (bI_t (by omega)).symm | exact (bI_f (by omega)).symm)) (by exact rfl) dX8_maySend_18
  · have f_3 : ¬ (999 : Int) ≤ ((v.2.2.2.2.2.2.2.1 : Nat) : Int) := fun z => c_1 ((c_le (nI_toInt (n := 999) (by omega)) (nI_toInt (n := v.2.2.2.2.2.2.2.1) (by omega))).mpr z)
    refine lv_iconst (v := nI (1)) hx hb dX8_maySend_13 (by decide) ?_
    refine lv_goto (tgt := 18) hx hb dX8_maySend_14 (by decide) ?_
    exact xPi hx hb hr hlocks hS (by exact (by first | exact (bI_t (by omega)).symm | exact (bI_f (by omega)).symm)) (by exact rfl) dX8_maySend_18

set_option maxHeartbeats 4000000 in
set_option maxRecDepth 100000 in
theorem c_X8_pictureCount {l : Launch} {G : GT} {H0 : Heap} (a : Nat → Nat) (v : SVT)  (hP0 : PP G ([(a 0, .inr (7, [.ref (a 1), .ref (a 10), .ref (a 16), .ref (a 18), .ref (a 20), .ref (a 22), .ref (a 78), .ref (a 88)]))] ++ stW G (a 1) (a 2) (a 3) (a 4) (a 5) (a 6) (a 7) (a 8) (a 9) v) H0) : Met l yX8_pictureCount wsX8_pictureCount ({ frames := 0, cells := 0, slots := 0, locals := 0 } : Room) (pcG G [.ref (a 0)] H0) (qPi (nI (v.2.2.2.2.2.2.2.1)) H0) 0 0 noF := by
  refine enter (cc := cX8_pictureCount) (maxL := 1) (ret := some .int) (own := RX8) (lv := [(0, .ref (a 0))]) (by decide) rfl rfl rfl (Nat.le_of_ble_eq_true rfl) ?_
  intro pg ev s m below meth c hx hb hr hts hown hlocks hml hnm hH hC ls hl
  subst hH
  have hLo : ∀ q, noF q → lo G q := fun _ h => h.elim
  have hS : va_S noF s.heap s.heap [] := va_S.rf
  generalize ([] : List Loc) = locs at hS ⊢
  have hP := hP0
  refine lv_aload_n hx hb dX8_pictureCount_0 rfl (lv_at hl 0 rfl) ?_
  refine va_get (D := gD G) (cl := vwCl) (tys := tyl G) (ci := 7) (v := .ref (a 1)) (C := RX8) (T := TX8) (N := 8) hx hb hts (by decide +kernel) hown hC.K hP 0 rfl rfl 0 (by decide) (hts (.fieldLink RX8 12 "MotionPost" "now" "LMotionPost$State;") (by decide +kernel)) (fun _ h9 => h9) rfl dX8_pictureCount_1 ?_
  refine va_getN (D := gD G) (cl := vwCl) (tys := tyl G) (ci := 6) (v := .int (nI (v.2.2.2.2.2.2.2.1))) (C := RX7) (T := TX7) (N := 10) (host := "MotionPost") (ref := "MotionPost$State") hx hb hts (by decide +kernel) hown hC.K hP 1 rfl rfl 7 (by decide) (hC.nestW 14 rfl rfl) (fun _ h9 => h9) rfl dX8_pictureCount_4 ?_
  exact xPi hx hb hr hlocks hS (by exact rfl) (by exact rfl) dX8_pictureCount_7

set_option maxHeartbeats 4000000 in
set_option maxRecDepth 100000 in
theorem c_X8_lostCount {l : Launch} {G : GT} {H0 : Heap} (a : Nat → Nat) (v : SVT)  (hP0 : PP G ([(a 0, .inr (7, [.ref (a 1), .ref (a 10), .ref (a 16), .ref (a 18), .ref (a 20), .ref (a 22), .ref (a 78), .ref (a 88)]))] ++ stW G (a 1) (a 2) (a 3) (a 4) (a 5) (a 6) (a 7) (a 8) (a 9) v) H0) : Met l yX8_lostCount wsX8_lostCount ({ frames := 0, cells := 0, slots := 0, locals := 0 } : Room) (pcG G [.ref (a 0)] H0) (qPi (nI (v.2.2.2.2.2.2.2.2.1)) H0) 0 0 noF := by
  refine enter (cc := cX8_lostCount) (maxL := 1) (ret := some .int) (own := RX8) (lv := [(0, .ref (a 0))]) (by decide) rfl rfl rfl (Nat.le_of_ble_eq_true rfl) ?_
  intro pg ev s m below meth c hx hb hr hts hown hlocks hml hnm hH hC ls hl
  subst hH
  have hLo : ∀ q, noF q → lo G q := fun _ h => h.elim
  have hS : va_S noF s.heap s.heap [] := va_S.rf
  generalize ([] : List Loc) = locs at hS ⊢
  have hP := hP0
  refine lv_aload_n hx hb dX8_lostCount_0 rfl (lv_at hl 0 rfl) ?_
  refine va_get (D := gD G) (cl := vwCl) (tys := tyl G) (ci := 7) (v := .ref (a 1)) (C := RX8) (T := TX8) (N := 8) hx hb hts (by decide +kernel) hown hC.K hP 0 rfl rfl 0 (by decide) (hts (.fieldLink RX8 12 "MotionPost" "now" "LMotionPost$State;") (by decide +kernel)) (fun _ h9 => h9) rfl dX8_lostCount_1 ?_
  refine va_getN (D := gD G) (cl := vwCl) (tys := tyl G) (ci := 6) (v := .int (nI (v.2.2.2.2.2.2.2.2.1))) (C := RX7) (T := TX7) (N := 10) (host := "MotionPost") (ref := "MotionPost$State") hx hb hts (by decide +kernel) hown hC.K hP 1 rfl rfl 8 (by decide) (hC.nestW 15 rfl rfl) (fun _ h9 => h9) rfl dX8_lostCount_4 ?_
  exact xPi hx hb hr hlocks hS (by exact rfl) (by exact rfl) dX8_lostCount_7

set_option maxHeartbeats 4000000 in
set_option maxRecDepth 100000 in
theorem c_X8_bitCount {l : Launch} {G : GT} {H0 : Heap} (a : Nat → Nat) (v : SVT)  (hP0 : PP G ([(a 0, .inr (7, [.ref (a 1), .ref (a 10), .ref (a 16), .ref (a 18), .ref (a 20), .ref (a 22), .ref (a 78), .ref (a 88)]))] ++ stW G (a 1) (a 2) (a 3) (a 4) (a 5) (a 6) (a 7) (a 8) (a 9) v) H0) : Met l yX8_bitCount wsX8_bitCount ({ frames := 0, cells := 0, slots := 0, locals := 0 } : Room) (pcG G [.ref (a 0)] H0) (qPi (nI (v.2.2.2.2.2.2.2.2.2)) H0) 0 0 noF := by
  refine enter (cc := cX8_bitCount) (maxL := 1) (ret := some .int) (own := RX8) (lv := [(0, .ref (a 0))]) (by decide) rfl rfl rfl (Nat.le_of_ble_eq_true rfl) ?_
  intro pg ev s m below meth c hx hb hr hts hown hlocks hml hnm hH hC ls hl
  subst hH
  have hLo : ∀ q, noF q → lo G q := fun _ h => h.elim
  have hS : va_S noF s.heap s.heap [] := va_S.rf
  generalize ([] : List Loc) = locs at hS ⊢
  have hP := hP0
  refine lv_aload_n hx hb dX8_bitCount_0 rfl (lv_at hl 0 rfl) ?_
  refine va_get (D := gD G) (cl := vwCl) (tys := tyl G) (ci := 7) (v := .ref (a 1)) (C := RX8) (T := TX8) (N := 8) hx hb hts (by decide +kernel) hown hC.K hP 0 rfl rfl 0 (by decide) (hts (.fieldLink RX8 12 "MotionPost" "now" "LMotionPost$State;") (by decide +kernel)) (fun _ h9 => h9) rfl dX8_bitCount_1 ?_
  refine va_getN (D := gD G) (cl := vwCl) (tys := tyl G) (ci := 6) (v := .int (nI (v.2.2.2.2.2.2.2.2.2))) (C := RX7) (T := TX7) (N := 10) (host := "MotionPost") (ref := "MotionPost$State") hx hb hts (by decide +kernel) hown hC.K hP 1 rfl rfl 9 (by decide) (hC.nestW 16 rfl rfl) (fun _ h9 => h9) rfl dX8_bitCount_4 ?_
  exact xPi hx hb hr hlocks hS (by exact rfl) (by exact rfl) dX8_bitCount_7

set_option maxHeartbeats 4000000 in
set_option maxRecDepth 100000 in
theorem c_X8_lastKind {l : Launch} {G : GT} {H0 : Heap} (a : Nat → Nat) (v : SVT) (b : Nat) (hb4 : b < 4) (hkd : 1 ≤ v.2.2.2.2.2.2.1 ∧ v.2.2.2.2.2.2.1 ≤ 20) (hpi : v.2.2.2.2.2.2.2.1 ≤ 999) (hP0 : PP G ([(a 0, .inr (7, [.ref (a 1), .ref (a 10), .ref (a 16), .ref (a 18), .ref (a 20), .ref (a 22), .ref (a 78), .ref (a 88)]))] ++ stW G (a 1) (a 2) (a 3) (a 4) (a 5) (a 6) (a 7) (a 8) (a 9) v) H0) : Met l yX8_lastKind wsX8_lastKind ({ frames := 1, cells := 0, slots := 0, locals := 20 } : Room) (pcG G [.ref (a 0), .int (nI (b))] H0) (qPi (iI (if v.2.2.2.2.2.2.2.1 = 0 then -1 else (v.2.2.2.1 b : Int))) H0) 0 0 noF := by
  refine enter (cc := cX8_lastKind) (maxL := 2) (ret := some .int) (own := RX8) (lv := [(0, .ref (a 0)), (1, .int (nI (b)))]) (by decide) rfl rfl rfl (Nat.le_of_ble_eq_true rfl) ?_
  intro pg ev s m below meth c hx hb hr hts hown hlocks hml hnm hH hC ls hl
  subst hH
  have hLo : ∀ q, noF q → lo G q := fun _ h => h.elim
  have hS : va_S noF s.heap s.heap [] := va_S.rf
  generalize ([] : List Loc) = locs at hS ⊢
  have hP := hP0
  refine lv_iload_n hx hb dX8_lastKind_0 rfl (lv_at hl 1 rfl) ?_
  refine kPv (va_runS (As := [.int (nI (b))]) (rest := []) ⟨hx, hb, hml, hown, hts⟩ (c_X8_requireBlock b (by first | assumption | omega)) (va_cwS 1 hts gX8_lastKind_X8_requireBlock rfl rfl rfl (by decide +kernel) ⟨Nat.le_of_ble_eq_true rfl, Nat.le_of_ble_eq_true rfl⟩) (preS hC hS hLo) rfl rfl hl.1 rfl (lv_room (Nat.le_of_ble_eq_true rfl)) dX8_lastKind_1 ⟨Nat.zero_le _, Nat.zero_le _⟩) hS (fun locs hS => ?_)
  refine lv_aload_n hx hb dX8_lastKind_4 rfl (lv_at hl 0 rfl) ?_
  refine va_get (D := gD G) (cl := vwCl) (tys := tyl G) (ci := 7) (v := .ref (a 1)) (C := RX8) (T := TX8) (N := 8) hx hb hts (by decide +kernel) hown hC.K hP 0 rfl rfl 0 (by decide) (hts (.fieldLink RX8 12 "MotionPost" "now" "LMotionPost$State;") (by decide +kernel)) (fun _ h9 => h9) rfl dX8_lastKind_5 ?_
  refine va_getN (D := gD G) (cl := vwCl) (tys := tyl G) (ci := 6) (v := .int (nI (v.2.2.2.2.2.2.2.1))) (C := RX7) (T := TX7) (N := 10) (host := "MotionPost") (ref := "MotionPost$State") hx hb hts (by decide +kernel) hown hC.K hP 1 rfl rfl 7 (by decide) (hC.nestW 14 rfl rfl) (fun _ h9 => h9) rfl dX8_lastKind_8 ?_
  refine lv_if_ne (tgt := 18) hx hb dX8_lastKind_11 (by decide) (fun c_1 => ?_) (fun c_1 => ?_)
  · have f_2 : ¬ ((v.2.2.2.2.2.2.2.1 : Nat) : Int) = (0 : Int) := fun z => c_1 ((c_eq (nI_toInt (n := v.2.2.2.2.2.2.2.1) (by omega)) rfl).mpr z)
    refine lv_aload_n hx hb dX8_lastKind_18 rfl (lv_at hl 0 rfl) ?_
    refine va_get (D := gD G) (cl := vwCl) (tys := tyl G) (ci := 7) (v := .ref (a 1)) (C := RX8) (T := TX8) (N := 8) hx hb hts (by decide +kernel) hown hC.K hP 0 rfl rfl 0 (by decide) (hts (.fieldLink RX8 12 "MotionPost" "now" "LMotionPost$State;") (by decide +kernel)) (fun _ h9 => h9) rfl dX8_lastKind_19 ?_
    refine va_getN (D := gD G) (cl := vwCl) (tys := tyl G) (ci := 6) (v := .ref (a 8)) (C := RX7) (T := TX7) (N := 10) (host := "MotionPost") (ref := "MotionPost$State") hx hb hts (by decide +kernel) hown hC.K hP 1 rfl rfl 3 (by decide) (hC.nestW 9 rfl rfl) (fun _ h9 => h9) rfl dX8_lastKind_22 ?_
    refine lv_iload_n hx hb dX8_lastKind_25 rfl (lv_at hl 1 rfl) ?_
    refine gIald (j := b) hx hb hC.K hP 8 0 rfl rfl (rfl) (by omega) (by decide) dX8_lastKind_26 ?_
    exact xPi hx hb hr hlocks hS (by exact (by first | exact congrArg iI (if_pos (by omega)).symm | exact (nI_i _).trans (congrArg iI (if_neg (by omega)).symm))) (by exact rfl) dX8_lastKind_27
  · have f_3 : ((v.2.2.2.2.2.2.2.1 : Nat) : Int) = (0 : Int) := (c_eq (nI_toInt (n := v.2.2.2.2.2.2.2.1) (by omega)) rfl).mp c_1
    refine lv_iconst (v := iI (-1)) hx hb dX8_lastKind_14 (by decide) ?_
    refine lv_goto (tgt := 27) hx hb dX8_lastKind_15 (by decide) ?_
    exact xPi hx hb hr hlocks hS (by exact (by first | exact congrArg iI (if_pos (by omega)).symm | exact (nI_i _).trans (congrArg iI (if_neg (by omega)).symm))) (by exact rfl) dX8_lastKind_27

set_option maxHeartbeats 4000000 in
set_option maxRecDepth 100000 in
theorem c_X8_lastMove {l : Launch} {G : GT} {H0 : Heap} (a : Nat → Nat) (v : SVT) (b : Nat) (hb4 : b < 4) (hkd : 1 ≤ v.2.2.2.2.2.2.1 ∧ v.2.2.2.2.2.2.1 ≤ 20) (hpi : v.2.2.2.2.2.2.2.1 ≤ 999) (hk2 : v.2.2.2.1 b ≤ 2) (hP0 : PP G ([(a 0, .inr (7, [.ref (a 1), .ref (a 10), .ref (a 16), .ref (a 18), .ref (a 20), .ref (a 22), .ref (a 78), .ref (a 88)]))] ++ stW G (a 1) (a 2) (a 3) (a 4) (a 5) (a 6) (a 7) (a 8) (a 9) v) H0) : Met l yX8_lastMove wsX8_lastMove ({ frames := 1, cells := 0, slots := 0, locals := 20 } : Room) (pcG G [.ref (a 0), .int (nI (b))] H0) (qPi (iI (if v.2.2.2.2.2.2.2.1 = 0 ∨ v.2.2.2.1 b = 0 then -1 else (v.2.2.2.2.1 b : Int))) H0) 0 0 noF := by
  refine enter (cc := cX8_lastMove) (maxL := 2) (ret := some .int) (own := RX8) (lv := [(0, .ref (a 0)), (1, .int (nI (b)))]) (by decide) rfl rfl rfl (Nat.le_of_ble_eq_true rfl) ?_
  intro pg ev s m below meth c hx hb hr hts hown hlocks hml hnm hH hC ls hl
  subst hH
  have hLo : ∀ q, noF q → lo G q := fun _ h => h.elim
  have hS : va_S noF s.heap s.heap [] := va_S.rf
  generalize ([] : List Loc) = locs at hS ⊢
  have hP := hP0
  refine lv_iload_n hx hb dX8_lastMove_0 rfl (lv_at hl 1 rfl) ?_
  refine kPv (va_runS (As := [.int (nI (b))]) (rest := []) ⟨hx, hb, hml, hown, hts⟩ (c_X8_requireBlock b (by first | assumption | omega)) (va_cwS 1 hts gX8_lastMove_X8_requireBlock rfl rfl rfl (by decide +kernel) ⟨Nat.le_of_ble_eq_true rfl, Nat.le_of_ble_eq_true rfl⟩) (preS hC hS hLo) rfl rfl hl.1 rfl (lv_room (Nat.le_of_ble_eq_true rfl)) dX8_lastMove_1 ⟨Nat.zero_le _, Nat.zero_le _⟩) hS (fun locs hS => ?_)
  refine lv_aload_n hx hb dX8_lastMove_4 rfl (lv_at hl 0 rfl) ?_
  refine va_get (D := gD G) (cl := vwCl) (tys := tyl G) (ci := 7) (v := .ref (a 1)) (C := RX8) (T := TX8) (N := 8) hx hb hts (by decide +kernel) hown hC.K hP 0 rfl rfl 0 (by decide) (hts (.fieldLink RX8 12 "MotionPost" "now" "LMotionPost$State;") (by decide +kernel)) (fun _ h9 => h9) rfl dX8_lastMove_5 ?_
  refine va_getN (D := gD G) (cl := vwCl) (tys := tyl G) (ci := 6) (v := .int (nI (v.2.2.2.2.2.2.2.1))) (C := RX7) (T := TX7) (N := 10) (host := "MotionPost") (ref := "MotionPost$State") hx hb hts (by decide +kernel) hown hC.K hP 1 rfl rfl 7 (by decide) (hC.nestW 14 rfl rfl) (fun _ h9 => h9) rfl dX8_lastMove_8 ?_
  refine lv_if_eq (tgt := 26) hx hb dX8_lastMove_11 (by decide) (fun c_1 => ?_) (fun c_1 => ?_)
  · have f_2 : ((v.2.2.2.2.2.2.2.1 : Nat) : Int) = (0 : Int) := (c_eq (nI_toInt (n := v.2.2.2.2.2.2.2.1) (by omega)) rfl).mp c_1
    refine lv_iconst (v := iI (-1)) hx hb dX8_lastMove_26 (by decide) ?_
    refine lv_goto (tgt := 39) hx hb dX8_lastMove_27 (by decide) ?_
    exact xPi hx hb hr hlocks hS (by exact (by first | exact congrArg iI (if_pos (by omega)).symm | exact (nI_i _).trans (congrArg iI (if_neg (by omega)).symm))) (by exact rfl) dX8_lastMove_39
  · have f_3 : ¬ ((v.2.2.2.2.2.2.2.1 : Nat) : Int) = (0 : Int) := fun z => c_1 ((c_eq (nI_toInt (n := v.2.2.2.2.2.2.2.1) (by omega)) rfl).mpr z)
    refine lv_aload_n hx hb dX8_lastMove_14 rfl (lv_at hl 0 rfl) ?_
    refine va_get (D := gD G) (cl := vwCl) (tys := tyl G) (ci := 7) (v := .ref (a 1)) (C := RX8) (T := TX8) (N := 8) hx hb hts (by decide +kernel) hown hC.K hP 0 rfl rfl 0 (by decide) (hts (.fieldLink RX8 12 "MotionPost" "now" "LMotionPost$State;") (by decide +kernel)) (fun _ h9 => h9) rfl dX8_lastMove_15 ?_
    refine va_getN (D := gD G) (cl := vwCl) (tys := tyl G) (ci := 6) (v := .ref (a 8)) (C := RX7) (T := TX7) (N := 10) (host := "MotionPost") (ref := "MotionPost$State") hx hb hts (by decide +kernel) hown hC.K hP 1 rfl rfl 3 (by decide) (hC.nestW 9 rfl rfl) (fun _ h9 => h9) rfl dX8_lastMove_18 ?_
    refine lv_iload_n hx hb dX8_lastMove_21 rfl (lv_at hl 1 rfl) ?_
    refine gIald (j := b) hx hb hC.K hP 8 0 rfl rfl (rfl) (by omega) (by decide) dX8_lastMove_22 ?_
    refine lv_if_ne (tgt := 30) hx hb dX8_lastMove_23 (by decide) (fun c_4 => ?_) (fun c_4 => ?_)
    · have f_5 : ¬ ((v.2.2.2.1 b : Nat) : Int) = (0 : Int) := fun z => c_4 ((c_eq (nI_toInt (n := v.2.2.2.1 b) (by omega)) rfl).mpr z)
      refine lv_aload_n hx hb dX8_lastMove_30 rfl (lv_at hl 0 rfl) ?_
      refine va_get (D := gD G) (cl := vwCl) (tys := tyl G) (ci := 7) (v := .ref (a 1)) (C := RX8) (T := TX8) (N := 8) hx hb hts (by decide +kernel) hown hC.K hP 0 rfl rfl 0 (by decide) (hts (.fieldLink RX8 12 "MotionPost" "now" "LMotionPost$State;") (by decide +kernel)) (fun _ h9 => h9) rfl dX8_lastMove_31 ?_
      refine va_getN (D := gD G) (cl := vwCl) (tys := tyl G) (ci := 6) (v := .ref (a 9)) (C := RX7) (T := TX7) (N := 10) (host := "MotionPost") (ref := "MotionPost$State") hx hb hts (by decide +kernel) hown hC.K hP 1 rfl rfl 4 (by decide) (hC.nestW 10 rfl rfl) (fun _ h9 => h9) rfl dX8_lastMove_34 ?_
      refine lv_iload_n hx hb dX8_lastMove_37 rfl (lv_at hl 1 rfl) ?_
      refine gIald (j := b) hx hb hC.K hP 9 0 rfl rfl (rfl) (by omega) (by decide) dX8_lastMove_38 ?_
      exact xPi hx hb hr hlocks hS (by exact (by first | exact congrArg iI (if_pos (by omega)).symm | exact (nI_i _).trans (congrArg iI (if_neg (by omega)).symm))) (by exact rfl) dX8_lastMove_39
    · have f_6 : ((v.2.2.2.1 b : Nat) : Int) = (0 : Int) := (c_eq (nI_toInt (n := v.2.2.2.1 b) (by omega)) rfl).mp c_4
      refine lv_iconst (v := iI (-1)) hx hb dX8_lastMove_26 (by decide) ?_
      refine lv_goto (tgt := 39) hx hb dX8_lastMove_27 (by decide) ?_
      exact xPi hx hb hr hlocks hS (by exact (by first | exact congrArg iI (if_pos (by omega)).symm | exact (nI_i _).trans (congrArg iI (if_neg (by omega)).symm))) (by exact rfl) dX8_lastMove_39

set_option maxHeartbeats 4000000 in
set_option maxRecDepth 100000 in
theorem c_X8_undoCount {l : Launch} {G : GT} {H0 : Heap} (a : Nat → Nat) (nx ct : Nat)  (hP0 : PP G ([(a 0, .inr (7, [.ref (a 1), .ref (a 10), .ref (a 16), .ref (a 18), .ref (a 20), .ref (a 22), .ref (a 78), .ref (a 88)])), (a 22, .inr (2, [.ref (a 23), .int (nI (nx)), .int (nI (ct))]))]) H0) : Met l yX8_undoCount wsX8_undoCount ({ frames := 0, cells := 0, slots := 0, locals := 0 } : Room) (pcG G [.ref (a 0)] H0) (qPi (nI (ct)) H0) 0 0 noF := by
  refine enter (cc := cX8_undoCount) (maxL := 1) (ret := some .int) (own := RX8) (lv := [(0, .ref (a 0))]) (by decide) rfl rfl rfl (Nat.le_of_ble_eq_true rfl) ?_
  intro pg ev s m below meth c hx hb hr hts hown hlocks hml hnm hH hC ls hl
  subst hH
  have hLo : ∀ q, noF q → lo G q := fun _ h => h.elim
  have hS : va_S noF s.heap s.heap [] := va_S.rf
  generalize ([] : List Loc) = locs at hS ⊢
  have hP := hP0
  refine lv_aload_n hx hb dX8_undoCount_0 rfl (lv_at hl 0 rfl) ?_
  refine va_get (D := gD G) (cl := vwCl) (tys := tyl G) (ci := 7) (v := .ref (a 22)) (C := RX8) (T := TX8) (N := 8) hx hb hts (by decide +kernel) hown hC.K hP 0 rfl rfl 5 (by decide) (hts (.fieldLink RX8 47 "MotionPost" "history" "LMotionPost$History;") (by decide +kernel)) (fun _ h9 => h9) rfl dX8_undoCount_1 ?_
  refine va_getN (D := gD G) (cl := vwCl) (tys := tyl G) (ci := 2) (v := .int (nI (ct))) (C := RX2) (T := TX2) (N := 3) (host := "MotionPost") (ref := "MotionPost$History") hx hb hts (by decide +kernel) hown hC.K hP 1 rfl rfl 2 (by decide) (hC.nestW 28 rfl rfl) (fun _ h9 => h9) rfl dX8_undoCount_4 ?_
  exact xPi hx hb hr hlocks hS (by exact rfl) (by exact rfl) dX8_undoCount_7

set_option maxHeartbeats 4000000 in
set_option maxRecDepth 100000 in
theorem c_X8_draw {l : Launch} {G : GT} {H0 : Heap} (a : Nat → Nat) (v : SVT) (mo ki : Nat → Nat) (pr df : Nat → Int) (co : Int32) (bi : Nat) (g9 : Nat → Int32) (lr : Nat) (bf : Nat → Int) (tn : Nat → Nat) (ln nx ct : Nat) (hv : Nat → SVT) (v0 : SVT) (k0 : Nat) (v1 : SVT) (k1 : Nat) (p : Nat) (w : Int) (hnx : nx < 6) (hct : ct ≤ 6) (hp : p < 64) (hw : 0 ≤ w ∧ w ≤ 15) (hP0 : PP G (xW G a v mo ki pr df co bi g9 lr bf tn ln nx ct hv v0 k0 v1 k1) H0) (hB0 : va_D (lo G) (xW G a v mo ki pr df co bi g9 lr bf tn ln nx ct hv v0 k0 v1 k1)) : Met l yX8_draw wsX8_draw ({ frames := 4, cells := 0, slots := 0, locals := 88 } : Room) (pcG G [.ref (a 0), .int (nI (p)), .int (iI (w))] H0) (qMi G (fun (r : Int32) (u : Unit) => r = iI (v.1 p)) (fun (u : Unit) => xW G a (va_up v.1 p w, v.2.1, v.2.2.1, v.2.2.2.1, v.2.2.2.2.1, v.2.2.2.2.2.1, v.2.2.2.2.2.2.1, v.2.2.2.2.2.2.2.1, v.2.2.2.2.2.2.2.2.1, v.2.2.2.2.2.2.2.2.2) mo ki pr df co bi g9 lr bf tn ln ((nx + 1) % 6) (min (ct + 1) 6) (va_up hv nx v) v0 k0 v1 k1) (xW G a v mo ki pr df co bi g9 lr bf tn ln nx ct hv v0 k0 v1 k1) H0) 0 0 (va_A (xW G a v mo ki pr df co bi g9 lr bf tn ln nx ct hv v0 k0 v1 k1) H0.size) := by
  refine enter (cc := cX8_draw) (maxL := 3) (ret := some .int) (own := RX8) (lv := [(0, .ref (a 0)), (1, .int (nI (p))), (2, .int (iI (w)))]) (by decide) rfl rfl rfl (Nat.le_of_ble_eq_true rfl) ?_
  intro pg ev s m below meth c hx hb hr hts hown hlocks hml hnm hH hC ls hl
  subst hH
  have hLo := va_freeB hB0 hC.2.2.2.1
  have hD := hB0.self (sz := s.heap.size)
  have hS : va_S (va_A (xW G a v mo ki pr df co bi g9 lr bf tn ln nx ct hv v0 k0 v1 k1) s.heap.size) s.heap s.heap [] := va_S.rf
  unfold qMi
  generalize hAe : va_A (xW G a v mo ki pr df co bi g9 lr bf tn ln nx ct hv v0 k0 v1 k1) s.heap.size = A at hD hLo hS ⊢
  have hA : ∀ q, s.heap.size ≤ q → A q := fun q h => by rw [← hAe]; exact Or.inr h
  generalize ([] : List Loc) = locs at hS ⊢
  have hP := hP0
  refine lv_iload_n hx hb dX8_draw_0 rfl (lv_at hl 1 rfl) ?_
  refine kPv (va_runS (As := [.int (nI (p))]) (rest := []) ⟨hx, hb, hml, hown, hts⟩ (c_X8_requirePixel p (by first | assumption | omega)) (va_cwS 1 hts gX8_draw_X8_requirePixel rfl rfl rfl (by decide +kernel) ⟨Nat.le_of_ble_eq_true rfl, Nat.le_of_ble_eq_true rfl⟩) (preS hC hS hLo) rfl rfl hl.1 rfl (lv_room (Nat.le_of_ble_eq_true rfl)) dX8_draw_1 ⟨Nat.zero_le _, Nat.zero_le _⟩) hS (fun locs hS => ?_)
  refine lv_iload_n hx hb dX8_draw_4 rfl (lv_at hl 2 rfl) ?_
  refine lv_iconst (v := nI (0)) hx hb dX8_draw_5 (by decide) ?_
  refine lv_bipush (v := nI (15)) hx hb dX8_draw_6 (by decide) ?_
  refine kPv (va_runS (As := [.int (iI (w)), .int (nI (0)), .int (nI (15))]) (rest := []) ⟨hx, hb, hml, hown, hts⟩ (c_X8_requireWithin (iI (w)) (nI (0)) (nI (15)) (by show (0 : Int) ≤ _; rw [iI_toInt (by omega) (by omega)]; omega) (by show _ ≤ (15 : Int); rw [iI_toInt (by omega) (by omega)]; omega)) (va_cwS 3 hts gX8_draw_X8_requireWithin rfl rfl rfl (by decide +kernel) ⟨Nat.le_of_ble_eq_true rfl, Nat.le_of_ble_eq_true rfl⟩) (preS hC hS hLo) rfl rfl hl.1 rfl (lv_room (Nat.le_of_ble_eq_true rfl)) dX8_draw_8 ⟨Nat.zero_le _, Nat.zero_le _⟩) hS (fun locs hS => ?_)
  refine lv_aload_n hx hb dX8_draw_11 rfl (lv_at hl 0 rfl) ?_
  refine va_get (D := gD G) (cl := vwCl) (tys := tyl G) (ci := 7) (v := .ref (a 22)) (C := RX8) (T := TX8) (N := 8) hx hb hts (by decide +kernel) hown hC.K hP 0 rfl rfl 5 (by decide) (hts (.fieldLink RX8 47 "MotionPost" "history" "LMotionPost$History;") (by decide +kernel)) (fun _ h9 => h9) rfl dX8_draw_12 ?_
  refine lv_aload_n hx hb dX8_draw_15 rfl (lv_at hl 0 rfl) ?_
  refine va_get (D := gD G) (cl := vwCl) (tys := tyl G) (ci := 7) (v := .ref (a 1)) (C := RX8) (T := TX8) (N := 8) hx hb hts (by decide +kernel) hown hC.K hP 0 rfl rfl 0 (by decide) (hts (.fieldLink RX8 12 "MotionPost" "now" "LMotionPost$State;") (by decide +kernel)) (fun _ h9 => h9) rfl dX8_draw_16 ?_
  have hP : PP G ((xoW a) ++ (stW G (a 1) (a 2) (a 3) (a 4) (a 5) (a 6) (a 7) (a 8) (a 9) v ++ ((mdW G a mo ki pr df co bi g9 lr bf tn ln) ++ (hsW G a nx ct hv ++ (rrW G a v0 k0 v1 k1))))) s.heap := hP
  have hD : va_D A ((xoW a) ++ (stW G (a 1) (a 2) (a 3) (a 4) (a 5) (a 6) (a 7) (a 8) (a 9) v ++ ((mdW G a mo ki pr df co bi g9 lr bf tn ln) ++ (hsW G a nx ct hv ++ (rrW G a v0 k0 v1 k1))))) := hD
  have hPc := f2_P hP
  have hDc := (f2_D hD).weaken (fun _ _ _ h => hLo _ h)
  refine kF2 (P1 := xoW a) (P2 := mdW G a mo ki pr df co bi g9 lr bf tn ln) (P3 := rrW G a v0 k0 v1 k1) (va_runVN (As := [.ref (a 1)]) (rest := []) ⟨hx, hb, hml, hown, hts⟩ (c_X2_record a v nx ct hv hnx hct hPc hDc) ⟨va_cnB 1 hts gX8_draw_X2_record_n69 rfl rfl rfl (hC.nest 50 rfl) (hts (.initialized RX2) (by decide +kernel)) (by decide +kernel) ⟨Nat.le_of_ble_eq_true rfl, Nat.le_of_ble_eq_true rfl⟩, (hts (.instanceMethod yX2_record) (by decide +kernel)), (hts (.selects RX2 yX2_record yX2_record) (by decide +kernel))⟩ (preV hC hS hLo hPc (ci := 2) (q0 := 9) rfl rfl) rfl rfl hl.1 rfl (lv_room (Nat.le_of_ble_eq_true rfl)) dX8_draw_19 ⟨Nat.zero_le _, Nat.zero_le _⟩) hP hD hS hA rfl rfl (fun H locs hP hD hS => ?_)
  have hP : PP G (xW G a v mo ki pr df co bi g9 lr bf tn ln ((nx + 1) % 6) (min (ct + 1) 6) (va_up hv nx v) v0 k0 v1 k1) H := hP
  have hD : va_D A (xW G a v mo ki pr df co bi g9 lr bf tn ln ((nx + 1) % 6) (min (ct + 1) 6) (va_up hv nx v) v0 k0 v1 k1) := hD
  refine lv_aload_n hx hb dX8_draw_22 rfl (lv_at hl 0 rfl) ?_
  refine va_get (D := gD G) (cl := vwCl) (tys := tyl G) (ci := 7) (v := .ref (a 1)) (C := RX8) (T := TX8) (N := 8) hx hb hts (by decide +kernel) hown hC.K hP 0 rfl rfl 0 (by decide) (hts (.fieldLink RX8 12 "MotionPost" "now" "LMotionPost$State;") (by decide +kernel)) (fun _ h9 => h9) rfl dX8_draw_23 ?_
  refine va_getN (D := gD G) (cl := vwCl) (tys := tyl G) (ci := 6) (v := .ref (a 2)) (C := RX7) (T := TX7) (N := 10) (host := "MotionPost") (ref := "MotionPost$State") hx hb hts (by decide +kernel) hown hC.K hP 1 rfl rfl 0 (by decide) (hC.nestW 2 rfl rfl) (fun _ h9 => h9) rfl dX8_draw_26 ?_
  refine lv_iload_n hx hb dX8_draw_29 rfl (lv_at hl 1 rfl) ?_
  refine lv_iload_n hx hb dX8_draw_30 rfl (lv_at hl 2 rfl) ?_
  refine kMi (va_runVN (As := [.int (nI (p)), .int (iI (w))]) (rest := []) ⟨hx, hb, hml, hown, hts⟩ (c_X4_put (a 2) (a 3) v.1 p w (by first | assumption | omega) (hP.sub [2, 3] rfl) ((hD.sub [2, 3] (by decide) rfl).weaken (fun _ _ _ h => hLo _ h))) ⟨va_cnB 2 hts gX8_draw_X4_put_n76 rfl rfl rfl (hC.nest 53 rfl) (hts (.initialized RX4) (by decide +kernel)) (by decide +kernel) ⟨Nat.le_of_ble_eq_true rfl, Nat.le_of_ble_eq_true rfl⟩, (hts (.instanceMethod yX4_put) (by decide +kernel)), (hts (.selects RX4 yX4_put yX4_put) (by decide +kernel))⟩ (preV hC hS hLo hP (ci := 3) (q0 := 2) rfl rfl) rfl rfl hl.1 rfl (lv_room (Nat.le_of_ble_eq_true rfl)) dX8_draw_31 ⟨Nat.zero_le _, Nat.zero_le _⟩) hP hD hS hA [2, 3] (by decide) rfl (fun _ => rfl) (fun r_3 u_1 H locs q_2 hP hD hS => ?_)
  have hP : PP G (xW G a (va_up v.1 p w, v.2.1, v.2.2.1, v.2.2.2.1, v.2.2.2.2.1, v.2.2.2.2.2.1, v.2.2.2.2.2.2.1, v.2.2.2.2.2.2.2.1, v.2.2.2.2.2.2.2.2.1, v.2.2.2.2.2.2.2.2.2) mo ki pr df co bi g9 lr bf tn ln ((nx + 1) % 6) (min (ct + 1) 6) (va_up hv nx v) v0 k0 v1 k1) H := hP
  have hD : va_D A (xW G a (va_up v.1 p w, v.2.1, v.2.2.1, v.2.2.2.1, v.2.2.2.2.1, v.2.2.2.2.2.1, v.2.2.2.2.2.2.1, v.2.2.2.2.2.2.2.1, v.2.2.2.2.2.2.2.2.1, v.2.2.2.2.2.2.2.2.2) mo ki pr df co bi g9 lr bf tn ln ((nx + 1) % 6) (min (ct + 1) 6) (va_up hv nx v) v0 k0 v1 k1) := hD
  refine topE (v' := iI (v.1 p)) (q_2) ?_
  exact xMi (G := G) (post := (fun (r : Int32) (u : Unit) => r = iI (v.1 p))) (w1 := (fun (u : Unit) => xW G a (va_up v.1 p w, v.2.1, v.2.2.1, v.2.2.2.1, v.2.2.2.2.1, v.2.2.2.2.2.1, v.2.2.2.2.2.2.1, v.2.2.2.2.2.2.2.1, v.2.2.2.2.2.2.2.2.1, v.2.2.2.2.2.2.2.2.2) mo ki pr df co bi g9 lr bf tn ln ((nx + 1) % 6) (min (ct + 1) 6) (va_up hv nx v) v0 k0 v1 k1)) (()) hx hb hr hlocks hP hS (by exact rfl) (by exact rfl) dX8_draw_34

set_option maxHeartbeats 4000000 in
set_option maxRecDepth 100000 in
theorem c_X8_fill {l : Launch} {G : GT} {H0 : Heap} (a : Nat → Nat) (v : SVT) (mo ki : Nat → Nat) (pr df : Nat → Int) (co : Int32) (bi : Nat) (g9 : Nat → Int32) (lr : Nat) (bf : Nat → Int) (tn : Nat → Nat) (ln nx ct : Nat) (hv : Nat → SVT) (v0 : SVT) (k0 : Nat) (v1 : SVT) (k1 : Nat) (p hh ww : Nat) (w : Int) (hnx : nx < 6) (hct : ct ≤ 6) (hp : p < 64) (hhh : 1 ≤ hh ∧ hh ≤ 8) (hww : 1 ≤ ww ∧ ww ≤ 8) (hw : 0 ≤ w ∧ w ≤ 15) (hd : R15 v.1) (hP0 : PP G (xW G a v mo ki pr df co bi g9 lr bf tn ln nx ct hv v0 k0 v1 k1) H0) (hB0 : va_D (lo G) (xW G a v mo ki pr df co bi g9 lr bf tn ln nx ct hv v0 k0 v1 k1)) : Met l yX8_fill wsX8_fill ({ frames := 4, cells := 0, slots := 0, locals := 88 } : Room) (pcG G [.ref (a 0), .int (nI (p)), .int (nI (hh)), .int (nI (ww)), .int (iI (w))] H0) (qMi G (fun (r : Int32) (u : Unit) => r = nI ((fillS v.1 p hh ww w).2)) (fun (u : Unit) => xW G a ((fillS v.1 p hh ww w).1, v.2.1, v.2.2.1, v.2.2.2.1, v.2.2.2.2.1, v.2.2.2.2.2.1, v.2.2.2.2.2.2.1, v.2.2.2.2.2.2.2.1, v.2.2.2.2.2.2.2.2.1, v.2.2.2.2.2.2.2.2.2) mo ki pr df co bi g9 lr bf tn ln ((nx + 1) % 6) (min (ct + 1) 6) (va_up hv nx v) v0 k0 v1 k1) (xW G a v mo ki pr df co bi g9 lr bf tn ln nx ct hv v0 k0 v1 k1) H0) 0 0 (va_A (xW G a v mo ki pr df co bi g9 lr bf tn ln nx ct hv v0 k0 v1 k1) H0.size) := by
  refine enter (cc := cX8_fill) (maxL := 5) (ret := some .int) (own := RX8) (lv := [(0, .ref (a 0)), (1, .int (nI (p))), (2, .int (nI (hh))), (3, .int (nI (ww))), (4, .int (iI (w)))]) (by decide) rfl rfl rfl (Nat.le_of_ble_eq_true rfl) ?_
  intro pg ev s m below meth c hx hb hr hts hown hlocks hml hnm hH hC ls hl
  subst hH
  have hLo := va_freeB hB0 hC.2.2.2.1
  have hD := hB0.self (sz := s.heap.size)
  have hS : va_S (va_A (xW G a v mo ki pr df co bi g9 lr bf tn ln nx ct hv v0 k0 v1 k1) s.heap.size) s.heap s.heap [] := va_S.rf
  unfold qMi
  generalize hAe : va_A (xW G a v mo ki pr df co bi g9 lr bf tn ln nx ct hv v0 k0 v1 k1) s.heap.size = A at hD hLo hS ⊢
  have hA : ∀ q, s.heap.size ≤ q → A q := fun q h => by rw [← hAe]; exact Or.inr h
  generalize ([] : List Loc) = locs at hS ⊢
  have hP := hP0
  refine lv_iload_n hx hb dX8_fill_0 rfl (lv_at hl 1 rfl) ?_
  refine kPv (va_runS (As := [.int (nI (p))]) (rest := []) ⟨hx, hb, hml, hown, hts⟩ (c_X8_requirePixel p (by first | assumption | omega)) (va_cwS 1 hts gX8_fill_X8_requirePixel rfl rfl rfl (by decide +kernel) ⟨Nat.le_of_ble_eq_true rfl, Nat.le_of_ble_eq_true rfl⟩) (preS hC hS hLo) rfl rfl hl.1 rfl (lv_room (Nat.le_of_ble_eq_true rfl)) dX8_fill_1 ⟨Nat.zero_le _, Nat.zero_le _⟩) hS (fun locs hS => ?_)
  refine lv_iload_n hx hb dX8_fill_4 rfl (lv_at hl 2 rfl) ?_
  refine lv_iconst (v := nI (1)) hx hb dX8_fill_5 (by decide) ?_
  refine lv_bipush (v := nI (8)) hx hb dX8_fill_6 (by decide) ?_
  refine kPv (va_runS (As := [.int (nI (hh)), .int (nI (1)), .int (nI (8))]) (rest := []) ⟨hx, hb, hml, hown, hts⟩ (c_X8_requireWithin (nI (hh)) (nI (1)) (nI (8)) (by show (1 : Int) ≤ _; rw [nI_toInt (by omega)]; omega) (by show _ ≤ (8 : Int); rw [nI_toInt (by omega)]; omega)) (va_cwS 3 hts gX8_fill_X8_requireWithin rfl rfl rfl (by decide +kernel) ⟨Nat.le_of_ble_eq_true rfl, Nat.le_of_ble_eq_true rfl⟩) (preS hC hS hLo) rfl rfl hl.1 rfl (lv_room (Nat.le_of_ble_eq_true rfl)) dX8_fill_8 ⟨Nat.zero_le _, Nat.zero_le _⟩) hS (fun locs hS => ?_)
  refine lv_iload_n hx hb dX8_fill_11 rfl (lv_at hl 3 rfl) ?_
  refine lv_iconst (v := nI (1)) hx hb dX8_fill_12 (by decide) ?_
  refine lv_bipush (v := nI (8)) hx hb dX8_fill_13 (by decide) ?_
  refine kPv (va_runS (As := [.int (nI (ww)), .int (nI (1)), .int (nI (8))]) (rest := []) ⟨hx, hb, hml, hown, hts⟩ (c_X8_requireWithin (nI (ww)) (nI (1)) (nI (8)) (by show (1 : Int) ≤ _; rw [nI_toInt (by omega)]; omega) (by show _ ≤ (8 : Int); rw [nI_toInt (by omega)]; omega)) (va_cwS 3 hts gX8_fill_X8_requireWithin rfl rfl rfl (by decide +kernel) ⟨Nat.le_of_ble_eq_true rfl, Nat.le_of_ble_eq_true rfl⟩) (preS hC hS hLo) rfl rfl hl.1 rfl (lv_room (Nat.le_of_ble_eq_true rfl)) dX8_fill_15 ⟨Nat.zero_le _, Nat.zero_le _⟩) hS (fun locs hS => ?_)
  refine lv_iload hx hb dX8_fill_18 (lv_at hl 4 rfl) ?_
  refine lv_iconst (v := nI (0)) hx hb dX8_fill_20 (by decide) ?_
  refine lv_bipush (v := nI (15)) hx hb dX8_fill_21 (by decide) ?_
  refine kPv (va_runS (As := [.int (iI (w)), .int (nI (0)), .int (nI (15))]) (rest := []) ⟨hx, hb, hml, hown, hts⟩ (c_X8_requireWithin (iI (w)) (nI (0)) (nI (15)) (by show (0 : Int) ≤ _; rw [iI_toInt (by omega) (by omega)]; omega) (by show _ ≤ (15 : Int); rw [iI_toInt (by omega) (by omega)]; omega)) (va_cwS 3 hts gX8_fill_X8_requireWithin rfl rfl rfl (by decide +kernel) ⟨Nat.le_of_ble_eq_true rfl, Nat.le_of_ble_eq_true rfl⟩) (preS hC hS hLo) rfl rfl hl.1 rfl (lv_room (Nat.le_of_ble_eq_true rfl)) dX8_fill_23 ⟨Nat.zero_le _, Nat.zero_le _⟩) hS (fun locs hS => ?_)
  refine lv_aload_n hx hb dX8_fill_26 rfl (lv_at hl 0 rfl) ?_
  refine va_get (D := gD G) (cl := vwCl) (tys := tyl G) (ci := 7) (v := .ref (a 22)) (C := RX8) (T := TX8) (N := 8) hx hb hts (by decide +kernel) hown hC.K hP 0 rfl rfl 5 (by decide) (hts (.fieldLink RX8 47 "MotionPost" "history" "LMotionPost$History;") (by decide +kernel)) (fun _ h9 => h9) rfl dX8_fill_27 ?_
  refine lv_aload_n hx hb dX8_fill_30 rfl (lv_at hl 0 rfl) ?_
  refine va_get (D := gD G) (cl := vwCl) (tys := tyl G) (ci := 7) (v := .ref (a 1)) (C := RX8) (T := TX8) (N := 8) hx hb hts (by decide +kernel) hown hC.K hP 0 rfl rfl 0 (by decide) (hts (.fieldLink RX8 12 "MotionPost" "now" "LMotionPost$State;") (by decide +kernel)) (fun _ h9 => h9) rfl dX8_fill_31 ?_
  have hP : PP G ((xoW a) ++ (stW G (a 1) (a 2) (a 3) (a 4) (a 5) (a 6) (a 7) (a 8) (a 9) v ++ ((mdW G a mo ki pr df co bi g9 lr bf tn ln) ++ (hsW G a nx ct hv ++ (rrW G a v0 k0 v1 k1))))) s.heap := hP
  have hD : va_D A ((xoW a) ++ (stW G (a 1) (a 2) (a 3) (a 4) (a 5) (a 6) (a 7) (a 8) (a 9) v ++ ((mdW G a mo ki pr df co bi g9 lr bf tn ln) ++ (hsW G a nx ct hv ++ (rrW G a v0 k0 v1 k1))))) := hD
  have hPc := f2_P hP
  have hDc := (f2_D hD).weaken (fun _ _ _ h => hLo _ h)
  refine kF2 (P1 := xoW a) (P2 := mdW G a mo ki pr df co bi g9 lr bf tn ln) (P3 := rrW G a v0 k0 v1 k1) (va_runVN (As := [.ref (a 1)]) (rest := []) ⟨hx, hb, hml, hown, hts⟩ (c_X2_record a v nx ct hv hnx hct hPc hDc) ⟨va_cnB 1 hts gX8_fill_X2_record_n69 rfl rfl rfl (hC.nest 50 rfl) (hts (.initialized RX2) (by decide +kernel)) (by decide +kernel) ⟨Nat.le_of_ble_eq_true rfl, Nat.le_of_ble_eq_true rfl⟩, (hts (.instanceMethod yX2_record) (by decide +kernel)), (hts (.selects RX2 yX2_record yX2_record) (by decide +kernel))⟩ (preV hC hS hLo hPc (ci := 2) (q0 := 9) rfl rfl) rfl rfl hl.1 rfl (lv_room (Nat.le_of_ble_eq_true rfl)) dX8_fill_34 ⟨Nat.zero_le _, Nat.zero_le _⟩) hP hD hS hA rfl rfl (fun H locs hP hD hS => ?_)
  have hP : PP G (xW G a v mo ki pr df co bi g9 lr bf tn ln ((nx + 1) % 6) (min (ct + 1) 6) (va_up hv nx v) v0 k0 v1 k1) H := hP
  have hD : va_D A (xW G a v mo ki pr df co bi g9 lr bf tn ln ((nx + 1) % 6) (min (ct + 1) 6) (va_up hv nx v) v0 k0 v1 k1) := hD
  refine lv_aload_n hx hb dX8_fill_37 rfl (lv_at hl 0 rfl) ?_
  refine va_get (D := gD G) (cl := vwCl) (tys := tyl G) (ci := 7) (v := .ref (a 1)) (C := RX8) (T := TX8) (N := 8) hx hb hts (by decide +kernel) hown hC.K hP 0 rfl rfl 0 (by decide) (hts (.fieldLink RX8 12 "MotionPost" "now" "LMotionPost$State;") (by decide +kernel)) (fun _ h9 => h9) rfl dX8_fill_38 ?_
  refine va_getN (D := gD G) (cl := vwCl) (tys := tyl G) (ci := 6) (v := .ref (a 2)) (C := RX7) (T := TX7) (N := 10) (host := "MotionPost") (ref := "MotionPost$State") hx hb hts (by decide +kernel) hown hC.K hP 1 rfl rfl 0 (by decide) (hC.nestW 2 rfl rfl) (fun _ h9 => h9) rfl dX8_fill_41 ?_
  refine lv_iload_n hx hb dX8_fill_44 rfl (lv_at hl 1 rfl) ?_
  refine lv_iload_n hx hb dX8_fill_45 rfl (lv_at hl 2 rfl) ?_
  refine lv_iload_n hx hb dX8_fill_46 rfl (lv_at hl 3 rfl) ?_
  refine lv_iload hx hb dX8_fill_47 (lv_at hl 4 rfl) ?_
  refine kMi (va_runVN (As := [.int (nI (p)), .int (nI (hh)), .int (nI (ww)), .int (iI (w))]) (rest := []) ⟨hx, hb, hml, hown, hts⟩ (c_X4_putRectangle (a 2) (a 3) v.1 p hh ww w (by first | assumption | omega) (by first | assumption | omega) (by first | assumption | omega) (by first | assumption | omega) (by first | assumption | omega) (hP.sub [2, 3] rfl) ((hD.sub [2, 3] (by decide) rfl).weaken (fun _ _ _ h => hLo _ h))) ⟨va_cnB 4 hts gX8_fill_X4_putRectangle_n80 rfl rfl rfl (hC.nest 54 rfl) (hts (.initialized RX4) (by decide +kernel)) (by decide +kernel) ⟨Nat.le_of_ble_eq_true rfl, Nat.le_of_ble_eq_true rfl⟩, (hts (.instanceMethod yX4_putRectangle) (by decide +kernel)), (hts (.selects RX4 yX4_putRectangle yX4_putRectangle) (by decide +kernel))⟩ (preV hC hS hLo hP (ci := 3) (q0 := 2) rfl rfl) rfl rfl hl.1 rfl (lv_room (Nat.le_of_ble_eq_true rfl)) dX8_fill_49 ⟨Nat.zero_le _, Nat.zero_le _⟩) hP hD hS hA [2, 3] (by decide) rfl (fun _ => rfl) (fun r_3 u_1 H locs q_2 hP hD hS => ?_)
  have hP : PP G (xW G a ((fillS v.1 p hh ww w).1, v.2.1, v.2.2.1, v.2.2.2.1, v.2.2.2.2.1, v.2.2.2.2.2.1, v.2.2.2.2.2.2.1, v.2.2.2.2.2.2.2.1, v.2.2.2.2.2.2.2.2.1, v.2.2.2.2.2.2.2.2.2) mo ki pr df co bi g9 lr bf tn ln ((nx + 1) % 6) (min (ct + 1) 6) (va_up hv nx v) v0 k0 v1 k1) H := hP
  have hD : va_D A (xW G a ((fillS v.1 p hh ww w).1, v.2.1, v.2.2.1, v.2.2.2.1, v.2.2.2.2.1, v.2.2.2.2.2.1, v.2.2.2.2.2.2.1, v.2.2.2.2.2.2.2.1, v.2.2.2.2.2.2.2.2.1, v.2.2.2.2.2.2.2.2.2) mo ki pr df co bi g9 lr bf tn ln ((nx + 1) % 6) (min (ct + 1) 6) (va_up hv nx v) v0 k0 v1 k1) := hD
  refine topE (v' := nI ((fillS v.1 p hh ww w).2)) (q_2) ?_
  exact xMi (G := G) (post := (fun (r : Int32) (u : Unit) => r = nI ((fillS v.1 p hh ww w).2))) (w1 := (fun (u : Unit) => xW G a ((fillS v.1 p hh ww w).1, v.2.1, v.2.2.1, v.2.2.2.1, v.2.2.2.2.1, v.2.2.2.2.2.1, v.2.2.2.2.2.2.1, v.2.2.2.2.2.2.2.1, v.2.2.2.2.2.2.2.2.1, v.2.2.2.2.2.2.2.2.2) mo ki pr df co bi g9 lr bf tn ln ((nx + 1) % 6) (min (ct + 1) 6) (va_up hv nx v) v0 k0 v1 k1)) (()) hx hb hr hlocks hP hS (by exact rfl) (by exact rfl) dX8_fill_52

set_option maxHeartbeats 4000000 in
set_option maxRecDepth 100000 in
theorem c_X8_setBudget {l : Launch} {G : GT} {H0 : Heap} (a : Nat → Nat) (v : SVT) (mo ki : Nat → Nat) (pr df : Nat → Int) (co : Int32) (bi : Nat) (g9 : Nat → Int32) (lr : Nat) (bf : Nat → Int) (tn : Nat → Nat) (ln nx ct : Nat) (hv : Nat → SVT) (v0 : SVT) (k0 : Nat) (v1 : SVT) (k1 : Nat) (q : Nat) (hnx : nx < 6) (hct : ct ≤ 6) (hq : 4 ≤ q ∧ q ≤ 300) (hP0 : PP G (xW G a v mo ki pr df co bi g9 lr bf tn ln nx ct hv v0 k0 v1 k1) H0) (hB0 : va_D (lo G) (xW G a v mo ki pr df co bi g9 lr bf tn ln nx ct hv v0 k0 v1 k1)) : Met l yX8_setBudget wsX8_setBudget ({ frames := 4, cells := 0, slots := 0, locals := 88 } : Room) (pcG G [.ref (a 0), .int (nI (q))] H0) (qMi G (fun (r : Int32) (u : Unit) => r = nI (v.2.2.2.2.2.1)) (fun (u : Unit) => xW G a (v.1, v.2.1, v.2.2.1, v.2.2.2.1, v.2.2.2.2.1, q, v.2.2.2.2.2.2.1, v.2.2.2.2.2.2.2.1, v.2.2.2.2.2.2.2.2.1, v.2.2.2.2.2.2.2.2.2) mo ki pr df co bi g9 lr bf tn ln ((nx + 1) % 6) (min (ct + 1) 6) (va_up hv nx v) v0 k0 v1 k1) (xW G a v mo ki pr df co bi g9 lr bf tn ln nx ct hv v0 k0 v1 k1) H0) 0 0 (va_A (xW G a v mo ki pr df co bi g9 lr bf tn ln nx ct hv v0 k0 v1 k1) H0.size) := by
  refine enter (cc := cX8_setBudget) (maxL := 3) (ret := some .int) (own := RX8) (lv := [(0, .ref (a 0)), (1, .int (nI (q)))]) (by decide) rfl rfl rfl (Nat.le_of_ble_eq_true rfl) ?_
  intro pg ev s m below meth c hx hb hr hts hown hlocks hml hnm hH hC ls hl
  subst hH
  have hLo := va_freeB hB0 hC.2.2.2.1
  have hD := hB0.self (sz := s.heap.size)
  have hS : va_S (va_A (xW G a v mo ki pr df co bi g9 lr bf tn ln nx ct hv v0 k0 v1 k1) s.heap.size) s.heap s.heap [] := va_S.rf
  unfold qMi
  generalize hAe : va_A (xW G a v mo ki pr df co bi g9 lr bf tn ln nx ct hv v0 k0 v1 k1) s.heap.size = A at hD hLo hS ⊢
  have hA : ∀ q, s.heap.size ≤ q → A q := fun q h => by rw [← hAe]; exact Or.inr h
  generalize ([] : List Loc) = locs at hS ⊢
  have hP := hP0
  refine lv_iload_n hx hb dX8_setBudget_0 rfl (lv_at hl 1 rfl) ?_
  refine lv_iconst (v := nI (4)) hx hb dX8_setBudget_1 (by decide) ?_
  refine lv_sipush (v := nI (300)) hx hb dX8_setBudget_2 (by decide) ?_
  refine kPv (va_runS (As := [.int (nI (q)), .int (nI (4)), .int (nI (300))]) (rest := []) ⟨hx, hb, hml, hown, hts⟩ (c_X8_requireWithin (nI (q)) (nI (4)) (nI (300)) (by show (4 : Int) ≤ _; rw [nI_toInt (by omega)]; omega) (by show _ ≤ (300 : Int); rw [nI_toInt (by omega)]; omega)) (va_cwS 3 hts gX8_setBudget_X8_requireWithin rfl rfl rfl (by decide +kernel) ⟨Nat.le_of_ble_eq_true rfl, Nat.le_of_ble_eq_true rfl⟩) (preS hC hS hLo) rfl rfl hl.1 rfl (lv_room (Nat.le_of_ble_eq_true rfl)) dX8_setBudget_5 ⟨Nat.zero_le _, Nat.zero_le _⟩) hS (fun locs hS => ?_)
  refine lv_aload_n hx hb dX8_setBudget_8 rfl (lv_at hl 0 rfl) ?_
  refine va_get (D := gD G) (cl := vwCl) (tys := tyl G) (ci := 7) (v := .ref (a 22)) (C := RX8) (T := TX8) (N := 8) hx hb hts (by decide +kernel) hown hC.K hP 0 rfl rfl 5 (by decide) (hts (.fieldLink RX8 47 "MotionPost" "history" "LMotionPost$History;") (by decide +kernel)) (fun _ h9 => h9) rfl dX8_setBudget_9 ?_
  refine lv_aload_n hx hb dX8_setBudget_12 rfl (lv_at hl 0 rfl) ?_
  refine va_get (D := gD G) (cl := vwCl) (tys := tyl G) (ci := 7) (v := .ref (a 1)) (C := RX8) (T := TX8) (N := 8) hx hb hts (by decide +kernel) hown hC.K hP 0 rfl rfl 0 (by decide) (hts (.fieldLink RX8 12 "MotionPost" "now" "LMotionPost$State;") (by decide +kernel)) (fun _ h9 => h9) rfl dX8_setBudget_13 ?_
  have hP : PP G ((xoW a) ++ (stW G (a 1) (a 2) (a 3) (a 4) (a 5) (a 6) (a 7) (a 8) (a 9) v ++ ((mdW G a mo ki pr df co bi g9 lr bf tn ln) ++ (hsW G a nx ct hv ++ (rrW G a v0 k0 v1 k1))))) s.heap := hP
  have hD : va_D A ((xoW a) ++ (stW G (a 1) (a 2) (a 3) (a 4) (a 5) (a 6) (a 7) (a 8) (a 9) v ++ ((mdW G a mo ki pr df co bi g9 lr bf tn ln) ++ (hsW G a nx ct hv ++ (rrW G a v0 k0 v1 k1))))) := hD
  have hPc := f2_P hP
  have hDc := (f2_D hD).weaken (fun _ _ _ h => hLo _ h)
  refine kF2 (P1 := xoW a) (P2 := mdW G a mo ki pr df co bi g9 lr bf tn ln) (P3 := rrW G a v0 k0 v1 k1) (va_runVN (As := [.ref (a 1)]) (rest := []) ⟨hx, hb, hml, hown, hts⟩ (c_X2_record a v nx ct hv hnx hct hPc hDc) ⟨va_cnB 1 hts gX8_setBudget_X2_record_n69 rfl rfl rfl (hC.nest 50 rfl) (hts (.initialized RX2) (by decide +kernel)) (by decide +kernel) ⟨Nat.le_of_ble_eq_true rfl, Nat.le_of_ble_eq_true rfl⟩, (hts (.instanceMethod yX2_record) (by decide +kernel)), (hts (.selects RX2 yX2_record yX2_record) (by decide +kernel))⟩ (preV hC hS hLo hPc (ci := 2) (q0 := 9) rfl rfl) rfl rfl hl.1 rfl (lv_room (Nat.le_of_ble_eq_true rfl)) dX8_setBudget_16 ⟨Nat.zero_le _, Nat.zero_le _⟩) hP hD hS hA rfl rfl (fun H locs hP hD hS => ?_)
  have hP : PP G (xW G a v mo ki pr df co bi g9 lr bf tn ln ((nx + 1) % 6) (min (ct + 1) 6) (va_up hv nx v) v0 k0 v1 k1) H := hP
  have hD : va_D A (xW G a v mo ki pr df co bi g9 lr bf tn ln ((nx + 1) % 6) (min (ct + 1) 6) (va_up hv nx v) v0 k0 v1 k1) := hD
  refine lv_aload_n hx hb dX8_setBudget_19 rfl (lv_at hl 0 rfl) ?_
  refine va_get (D := gD G) (cl := vwCl) (tys := tyl G) (ci := 7) (v := .ref (a 1)) (C := RX8) (T := TX8) (N := 8) hx hb hts (by decide +kernel) hown hC.K hP 0 rfl rfl 0 (by decide) (hts (.fieldLink RX8 12 "MotionPost" "now" "LMotionPost$State;") (by decide +kernel)) (fun _ h9 => h9) rfl dX8_setBudget_20 ?_
  refine va_getN (D := gD G) (cl := vwCl) (tys := tyl G) (ci := 6) (v := .int (nI (v.2.2.2.2.2.1))) (C := RX7) (T := TX7) (N := 10) (host := "MotionPost") (ref := "MotionPost$State") hx hb hts (by decide +kernel) hown hC.K hP 1 rfl rfl 5 (by decide) (hC.nestW 12 rfl rfl) (fun _ h9 => h9) rfl dX8_setBudget_23 ?_
  refine lv_istore_n (lv' := [(2, .int (nI (v.2.2.2.2.2.1))), (0, .ref (a 0)), (1, .int (nI (q)))]) hx hb dX8_setBudget_26 rfl hl (by decide) rfl (fun ls hl => ?_)
  refine lv_aload_n hx hb dX8_setBudget_27 rfl (lv_at hl 1 rfl) ?_
  refine va_get (D := gD G) (cl := vwCl) (tys := tyl G) (ci := 7) (v := .ref (a 1)) (C := RX8) (T := TX8) (N := 8) hx hb hts (by decide +kernel) hown hC.K hP 0 rfl rfl 0 (by decide) (hts (.fieldLink RX8 12 "MotionPost" "now" "LMotionPost$State;") (by decide +kernel)) (fun _ h9 => h9) rfl dX8_setBudget_28 ?_
  refine lv_iload_n hx hb dX8_setBudget_31 rfl (lv_at hl 2 rfl) ?_
  refine va_putN (D := gD G) (cl := vwCl) (tys := tyl G) (ci := 6) (v := .int (nI (q))) (ty := .int) (C := RX7) (T := TX7) (N := 10) (host := "MotionPost") (ref := "MotionPost$State") hx hb hts (by decide +kernel) tyX7 tyX7_ok nmX7 hown hC.K hP hD hS 1 rfl rfl 5 (by decide) (hC.nestW 12 rfl rfl) (fun _ h9 => h9) rfl (by decide +kernel) (rfl) rfl (Nat.le_of_ble_eq_true rfl) dX8_setBudget_32 (fun H locs hP hD hS => ?_)
  have hP : PP G (xW G a (v.1, v.2.1, v.2.2.1, v.2.2.2.1, v.2.2.2.2.1, q, v.2.2.2.2.2.2.1, v.2.2.2.2.2.2.2.1, v.2.2.2.2.2.2.2.2.1, v.2.2.2.2.2.2.2.2.2) mo ki pr df co bi g9 lr bf tn ln ((nx + 1) % 6) (min (ct + 1) 6) (va_up hv nx v) v0 k0 v1 k1) H := hP
  have hD : va_D A (xW G a (v.1, v.2.1, v.2.2.1, v.2.2.2.1, v.2.2.2.2.1, q, v.2.2.2.2.2.2.1, v.2.2.2.2.2.2.2.1, v.2.2.2.2.2.2.2.2.1, v.2.2.2.2.2.2.2.2.2) mo ki pr df co bi g9 lr bf tn ln ((nx + 1) % 6) (min (ct + 1) 6) (va_up hv nx v) v0 k0 v1 k1) := hD
  refine lv_iload_n hx hb dX8_setBudget_35 rfl (lv_at hl 0 rfl) ?_
  exact xMi (G := G) (post := (fun (r : Int32) (u : Unit) => r = nI (v.2.2.2.2.2.1))) (w1 := (fun (u : Unit) => xW G a (v.1, v.2.1, v.2.2.1, v.2.2.2.1, v.2.2.2.2.1, q, v.2.2.2.2.2.2.1, v.2.2.2.2.2.2.2.1, v.2.2.2.2.2.2.2.2.1, v.2.2.2.2.2.2.2.2.2) mo ki pr df co bi g9 lr bf tn ln ((nx + 1) % 6) (min (ct + 1) 6) (va_up hv nx v) v0 k0 v1 k1)) (()) hx hb hr hlocks hP hS (by exact rfl) (by exact rfl) dX8_setBudget_36

set_option maxHeartbeats 4000000 in
set_option maxRecDepth 100000 in
theorem c_X8_setKeyDistance {l : Launch} {G : GT} {H0 : Heap} (a : Nat → Nat) (v : SVT) (mo ki : Nat → Nat) (pr df : Nat → Int) (co : Int32) (bi : Nat) (g9 : Nat → Int32) (lr : Nat) (bf : Nat → Int) (tn : Nat → Nat) (ln nx ct : Nat) (hv : Nat → SVT) (v0 : SVT) (k0 : Nat) (v1 : SVT) (k1 : Nat) (q : Nat) (hnx : nx < 6) (hct : ct ≤ 6) (hq : 1 ≤ q ∧ q ≤ 20) (hP0 : PP G (xW G a v mo ki pr df co bi g9 lr bf tn ln nx ct hv v0 k0 v1 k1) H0) (hB0 : va_D (lo G) (xW G a v mo ki pr df co bi g9 lr bf tn ln nx ct hv v0 k0 v1 k1)) : Met l yX8_setKeyDistance wsX8_setKeyDistance ({ frames := 4, cells := 0, slots := 0, locals := 88 } : Room) (pcG G [.ref (a 0), .int (nI (q))] H0) (qMi G (fun (r : Int32) (u : Unit) => r = nI (v.2.2.2.2.2.2.1)) (fun (u : Unit) => xW G a (v.1, v.2.1, v.2.2.1, v.2.2.2.1, v.2.2.2.2.1, v.2.2.2.2.2.1, q, v.2.2.2.2.2.2.2.1, v.2.2.2.2.2.2.2.2.1, v.2.2.2.2.2.2.2.2.2) mo ki pr df co bi g9 lr bf tn ln ((nx + 1) % 6) (min (ct + 1) 6) (va_up hv nx v) v0 k0 v1 k1) (xW G a v mo ki pr df co bi g9 lr bf tn ln nx ct hv v0 k0 v1 k1) H0) 0 0 (va_A (xW G a v mo ki pr df co bi g9 lr bf tn ln nx ct hv v0 k0 v1 k1) H0.size) := by
  refine enter (cc := cX8_setKeyDistance) (maxL := 3) (ret := some .int) (own := RX8) (lv := [(0, .ref (a 0)), (1, .int (nI (q)))]) (by decide) rfl rfl rfl (Nat.le_of_ble_eq_true rfl) ?_
  intro pg ev s m below meth c hx hb hr hts hown hlocks hml hnm hH hC ls hl
  subst hH
  have hLo := va_freeB hB0 hC.2.2.2.1
  have hD := hB0.self (sz := s.heap.size)
  have hS : va_S (va_A (xW G a v mo ki pr df co bi g9 lr bf tn ln nx ct hv v0 k0 v1 k1) s.heap.size) s.heap s.heap [] := va_S.rf
  unfold qMi
  generalize hAe : va_A (xW G a v mo ki pr df co bi g9 lr bf tn ln nx ct hv v0 k0 v1 k1) s.heap.size = A at hD hLo hS ⊢
  have hA : ∀ q, s.heap.size ≤ q → A q := fun q h => by rw [← hAe]; exact Or.inr h
  generalize ([] : List Loc) = locs at hS ⊢
  have hP := hP0
  refine lv_iload_n hx hb dX8_setKeyDistance_0 rfl (lv_at hl 1 rfl) ?_
  refine lv_iconst (v := nI (1)) hx hb dX8_setKeyDistance_1 (by decide) ?_
  refine lv_bipush (v := nI (20)) hx hb dX8_setKeyDistance_2 (by decide) ?_
  refine kPv (va_runS (As := [.int (nI (q)), .int (nI (1)), .int (nI (20))]) (rest := []) ⟨hx, hb, hml, hown, hts⟩ (c_X8_requireWithin (nI (q)) (nI (1)) (nI (20)) (by show (1 : Int) ≤ _; rw [nI_toInt (by omega)]; omega) (by show _ ≤ (20 : Int); rw [nI_toInt (by omega)]; omega)) (va_cwS 3 hts gX8_setKeyDistance_X8_requireWithin rfl rfl rfl (by decide +kernel) ⟨Nat.le_of_ble_eq_true rfl, Nat.le_of_ble_eq_true rfl⟩) (preS hC hS hLo) rfl rfl hl.1 rfl (lv_room (Nat.le_of_ble_eq_true rfl)) dX8_setKeyDistance_4 ⟨Nat.zero_le _, Nat.zero_le _⟩) hS (fun locs hS => ?_)
  refine lv_aload_n hx hb dX8_setKeyDistance_7 rfl (lv_at hl 0 rfl) ?_
  refine va_get (D := gD G) (cl := vwCl) (tys := tyl G) (ci := 7) (v := .ref (a 22)) (C := RX8) (T := TX8) (N := 8) hx hb hts (by decide +kernel) hown hC.K hP 0 rfl rfl 5 (by decide) (hts (.fieldLink RX8 47 "MotionPost" "history" "LMotionPost$History;") (by decide +kernel)) (fun _ h9 => h9) rfl dX8_setKeyDistance_8 ?_
  refine lv_aload_n hx hb dX8_setKeyDistance_11 rfl (lv_at hl 0 rfl) ?_
  refine va_get (D := gD G) (cl := vwCl) (tys := tyl G) (ci := 7) (v := .ref (a 1)) (C := RX8) (T := TX8) (N := 8) hx hb hts (by decide +kernel) hown hC.K hP 0 rfl rfl 0 (by decide) (hts (.fieldLink RX8 12 "MotionPost" "now" "LMotionPost$State;") (by decide +kernel)) (fun _ h9 => h9) rfl dX8_setKeyDistance_12 ?_
  have hP : PP G ((xoW a) ++ (stW G (a 1) (a 2) (a 3) (a 4) (a 5) (a 6) (a 7) (a 8) (a 9) v ++ ((mdW G a mo ki pr df co bi g9 lr bf tn ln) ++ (hsW G a nx ct hv ++ (rrW G a v0 k0 v1 k1))))) s.heap := hP
  have hD : va_D A ((xoW a) ++ (stW G (a 1) (a 2) (a 3) (a 4) (a 5) (a 6) (a 7) (a 8) (a 9) v ++ ((mdW G a mo ki pr df co bi g9 lr bf tn ln) ++ (hsW G a nx ct hv ++ (rrW G a v0 k0 v1 k1))))) := hD
  have hPc := f2_P hP
  have hDc := (f2_D hD).weaken (fun _ _ _ h => hLo _ h)
  refine kF2 (P1 := xoW a) (P2 := mdW G a mo ki pr df co bi g9 lr bf tn ln) (P3 := rrW G a v0 k0 v1 k1) (va_runVN (As := [.ref (a 1)]) (rest := []) ⟨hx, hb, hml, hown, hts⟩ (c_X2_record a v nx ct hv hnx hct hPc hDc) ⟨va_cnB 1 hts gX8_setKeyDistance_X2_record_n69 rfl rfl rfl (hC.nest 50 rfl) (hts (.initialized RX2) (by decide +kernel)) (by decide +kernel) ⟨Nat.le_of_ble_eq_true rfl, Nat.le_of_ble_eq_true rfl⟩, (hts (.instanceMethod yX2_record) (by decide +kernel)), (hts (.selects RX2 yX2_record yX2_record) (by decide +kernel))⟩ (preV hC hS hLo hPc (ci := 2) (q0 := 9) rfl rfl) rfl rfl hl.1 rfl (lv_room (Nat.le_of_ble_eq_true rfl)) dX8_setKeyDistance_15 ⟨Nat.zero_le _, Nat.zero_le _⟩) hP hD hS hA rfl rfl (fun H locs hP hD hS => ?_)
  have hP : PP G (xW G a v mo ki pr df co bi g9 lr bf tn ln ((nx + 1) % 6) (min (ct + 1) 6) (va_up hv nx v) v0 k0 v1 k1) H := hP
  have hD : va_D A (xW G a v mo ki pr df co bi g9 lr bf tn ln ((nx + 1) % 6) (min (ct + 1) 6) (va_up hv nx v) v0 k0 v1 k1) := hD
  refine lv_aload_n hx hb dX8_setKeyDistance_18 rfl (lv_at hl 0 rfl) ?_
  refine va_get (D := gD G) (cl := vwCl) (tys := tyl G) (ci := 7) (v := .ref (a 1)) (C := RX8) (T := TX8) (N := 8) hx hb hts (by decide +kernel) hown hC.K hP 0 rfl rfl 0 (by decide) (hts (.fieldLink RX8 12 "MotionPost" "now" "LMotionPost$State;") (by decide +kernel)) (fun _ h9 => h9) rfl dX8_setKeyDistance_19 ?_
  refine va_getN (D := gD G) (cl := vwCl) (tys := tyl G) (ci := 6) (v := .int (nI (v.2.2.2.2.2.2.1))) (C := RX7) (T := TX7) (N := 10) (host := "MotionPost") (ref := "MotionPost$State") hx hb hts (by decide +kernel) hown hC.K hP 1 rfl rfl 6 (by decide) (hC.nestW 13 rfl rfl) (fun _ h9 => h9) rfl dX8_setKeyDistance_22 ?_
  refine lv_istore_n (lv' := [(2, .int (nI (v.2.2.2.2.2.2.1))), (0, .ref (a 0)), (1, .int (nI (q)))]) hx hb dX8_setKeyDistance_25 rfl hl (by decide) rfl (fun ls hl => ?_)
  refine lv_aload_n hx hb dX8_setKeyDistance_26 rfl (lv_at hl 1 rfl) ?_
  refine va_get (D := gD G) (cl := vwCl) (tys := tyl G) (ci := 7) (v := .ref (a 1)) (C := RX8) (T := TX8) (N := 8) hx hb hts (by decide +kernel) hown hC.K hP 0 rfl rfl 0 (by decide) (hts (.fieldLink RX8 12 "MotionPost" "now" "LMotionPost$State;") (by decide +kernel)) (fun _ h9 => h9) rfl dX8_setKeyDistance_27 ?_
  refine lv_iload_n hx hb dX8_setKeyDistance_30 rfl (lv_at hl 2 rfl) ?_
  refine va_putN (D := gD G) (cl := vwCl) (tys := tyl G) (ci := 6) (v := .int (nI (q))) (ty := .int) (C := RX7) (T := TX7) (N := 10) (host := "MotionPost") (ref := "MotionPost$State") hx hb hts (by decide +kernel) tyX7 tyX7_ok nmX7 hown hC.K hP hD hS 1 rfl rfl 6 (by decide) (hC.nestW 13 rfl rfl) (fun _ h9 => h9) rfl (by decide +kernel) (rfl) rfl (Nat.le_of_ble_eq_true rfl) dX8_setKeyDistance_31 (fun H locs hP hD hS => ?_)
  have hP : PP G (xW G a (v.1, v.2.1, v.2.2.1, v.2.2.2.1, v.2.2.2.2.1, v.2.2.2.2.2.1, q, v.2.2.2.2.2.2.2.1, v.2.2.2.2.2.2.2.2.1, v.2.2.2.2.2.2.2.2.2) mo ki pr df co bi g9 lr bf tn ln ((nx + 1) % 6) (min (ct + 1) 6) (va_up hv nx v) v0 k0 v1 k1) H := hP
  have hD : va_D A (xW G a (v.1, v.2.1, v.2.2.1, v.2.2.2.1, v.2.2.2.2.1, v.2.2.2.2.2.1, q, v.2.2.2.2.2.2.2.1, v.2.2.2.2.2.2.2.2.1, v.2.2.2.2.2.2.2.2.2) mo ki pr df co bi g9 lr bf tn ln ((nx + 1) % 6) (min (ct + 1) 6) (va_up hv nx v) v0 k0 v1 k1) := hD
  refine lv_iload_n hx hb dX8_setKeyDistance_34 rfl (lv_at hl 0 rfl) ?_
  exact xMi (G := G) (post := (fun (r : Int32) (u : Unit) => r = nI (v.2.2.2.2.2.2.1))) (w1 := (fun (u : Unit) => xW G a (v.1, v.2.1, v.2.2.1, v.2.2.2.1, v.2.2.2.2.1, v.2.2.2.2.2.1, q, v.2.2.2.2.2.2.2.1, v.2.2.2.2.2.2.2.2.1, v.2.2.2.2.2.2.2.2.2) mo ki pr df co bi g9 lr bf tn ln ((nx + 1) % 6) (min (ct + 1) 6) (va_up hv nx v) v0 k0 v1 k1)) (()) hx hb hr hlocks hP hS (by exact rfl) (by exact rfl) dX8_setKeyDistance_35

set_option maxHeartbeats 4000000 in
set_option maxRecDepth 100000 in
theorem c_X8_scrollDrawn {l : Launch} {G : GT} {H0 : Heap} (a : Nat → Nat) (v : SVT) (mo ki : Nat → Nat) (pr df : Nat → Int) (co : Int32) (bi : Nat) (g9 : Nat → Int32) (lr : Nat) (bf : Nat → Int) (tn : Nat → Nat) (ln nx ct : Nat) (hv : Nat → SVT) (v0 : SVT) (k0 : Nat) (v1 : SVT) (k1 : Nat) (dy dx : Int) (hdy : -2 ≤ dy ∧ dy ≤ 2) (hdx : -2 ≤ dx ∧ dx ≤ 2) (hd : R15 v.1) (hP0 : PP G (xW G a v mo ki pr df co bi g9 lr bf tn ln nx ct hv v0 k0 v1 k1) H0) (hB0 : va_D (lo G) (xW G a v mo ki pr df co bi g9 lr bf tn ln nx ct hv v0 k0 v1 k1)) : Met l yX8_scrollDrawn wsX8_scrollDrawn ({ frames := 2, cells := 0, slots := 0, locals := 51 } : Room) (pcG G [.ref (a 0), .int (iI (dy)), .int (iI (dx))] H0) (qMi G (fun (r : Int32) (u : Unit) => r = nI ((tkm v.1 dy dx v.1 64).2)) (fun (u : Unit) => xW G a ((tkm v.1 dy dx v.1 64).1, v.2.1, v.2.2.1, v.2.2.2.1, v.2.2.2.2.1, v.2.2.2.2.2.1, v.2.2.2.2.2.2.1, v.2.2.2.2.2.2.2.1, v.2.2.2.2.2.2.2.2.1, v.2.2.2.2.2.2.2.2.2) mo ki pr df co bi g9 lr v.1 tn ln nx ct hv v0 k0 v1 k1) (xW G a v mo ki pr df co bi g9 lr bf tn ln nx ct hv v0 k0 v1 k1) H0) 0 0 (va_A (xW G a v mo ki pr df co bi g9 lr bf tn ln nx ct hv v0 k0 v1 k1) H0.size) := by
  refine enter (cc := cX8_scrollDrawn) (maxL := 3) (ret := some .int) (own := RX8) (lv := [(0, .ref (a 0)), (1, .int (iI (dy))), (2, .int (iI (dx)))]) (by decide) rfl rfl rfl (Nat.le_of_ble_eq_true rfl) ?_
  intro pg ev s m below meth c hx hb hr hts hown hlocks hml hnm hH hC ls hl
  subst hH
  have hLo := va_freeB hB0 hC.2.2.2.1
  have hD := hB0.self (sz := s.heap.size)
  have hS : va_S (va_A (xW G a v mo ki pr df co bi g9 lr bf tn ln nx ct hv v0 k0 v1 k1) s.heap.size) s.heap s.heap [] := va_S.rf
  unfold qMi
  generalize hAe : va_A (xW G a v mo ki pr df co bi g9 lr bf tn ln nx ct hv v0 k0 v1 k1) s.heap.size = A at hD hLo hS ⊢
  have hA : ∀ q, s.heap.size ≤ q → A q := fun q h => by rw [← hAe]; exact Or.inr h
  generalize ([] : List Loc) = locs at hS ⊢
  have hP := hP0
  refine lv_aload_n hx hb dX8_scrollDrawn_0 rfl (lv_at hl 0 rfl) ?_
  refine va_get (D := gD G) (cl := vwCl) (tys := tyl G) (ci := 7) (v := .ref (a 18)) (C := RX8) (T := TX8) (N := 8) hx hb hts (by decide +kernel) hown hC.K hP 0 rfl rfl 3 (by decide) (hts (.fieldLink RX8 33 "MotionPost" "before" "LMotionPost$Picture;") (by decide +kernel)) (fun _ h9 => h9) rfl dX8_scrollDrawn_1 ?_
  refine lv_aload_n hx hb dX8_scrollDrawn_4 rfl (lv_at hl 0 rfl) ?_
  refine va_get (D := gD G) (cl := vwCl) (tys := tyl G) (ci := 7) (v := .ref (a 1)) (C := RX8) (T := TX8) (N := 8) hx hb hts (by decide +kernel) hown hC.K hP 0 rfl rfl 0 (by decide) (hts (.fieldLink RX8 12 "MotionPost" "now" "LMotionPost$State;") (by decide +kernel)) (fun _ h9 => h9) rfl dX8_scrollDrawn_5 ?_
  refine va_getN (D := gD G) (cl := vwCl) (tys := tyl G) (ci := 6) (v := .ref (a 2)) (C := RX7) (T := TX7) (N := 10) (host := "MotionPost") (ref := "MotionPost$State") hx hb hts (by decide +kernel) hown hC.K hP 1 rfl rfl 0 (by decide) (hC.nestW 2 rfl rfl) (fun _ h9 => h9) rfl dX8_scrollDrawn_8 ?_
  refine kMv (va_runVN (As := [.ref (a 2)]) (rest := []) ⟨hx, hb, hml, hown, hts⟩ (c_X4_copyFrom (a 18) (a 19) bf (a 2) (a 3) v.1 (hP.sub [18, 19, 2, 3] rfl) ((hD.sub [18, 19, 2, 3] (by decide) rfl).weaken (fun _ _ _ h => hLo _ h))) ⟨va_cnB 1 hts gX8_scrollDrawn_X4_copyFrom_n252 rfl rfl rfl (hC.nest 55 rfl) (hts (.initialized RX4) (by decide +kernel)) (by decide +kernel) ⟨Nat.le_of_ble_eq_true rfl, Nat.le_of_ble_eq_true rfl⟩, (hts (.instanceMethod yX4_copyFrom) (by decide +kernel)), (hts (.selects RX4 yX4_copyFrom yX4_copyFrom) (by decide +kernel))⟩ (preV hC hS hLo hP (ci := 3) (q0 := 18) rfl rfl) rfl rfl hl.1 rfl (lv_room (Nat.le_of_ble_eq_true rfl)) dX8_scrollDrawn_11 ⟨Nat.zero_le _, Nat.zero_le _⟩) hP hD hS hA [18, 19, 2, 3] (by decide) rfl (fun _ => rfl) (fun u_1 H locs q_2 hP hD hS => ?_)
  have hP : PP G (xW G a v mo ki pr df co bi g9 lr v.1 tn ln nx ct hv v0 k0 v1 k1) H := hP
  have hD : va_D A (xW G a v mo ki pr df co bi g9 lr v.1 tn ln nx ct hv v0 k0 v1 k1) := hD
  refine lv_aload_n hx hb dX8_scrollDrawn_14 rfl (lv_at hl 0 rfl) ?_
  refine va_get (D := gD G) (cl := vwCl) (tys := tyl G) (ci := 7) (v := .ref (a 1)) (C := RX8) (T := TX8) (N := 8) hx hb hts (by decide +kernel) hown hC.K hP 0 rfl rfl 0 (by decide) (hts (.fieldLink RX8 12 "MotionPost" "now" "LMotionPost$State;") (by decide +kernel)) (fun _ h9 => h9) rfl dX8_scrollDrawn_15 ?_
  refine va_getN (D := gD G) (cl := vwCl) (tys := tyl G) (ci := 6) (v := .ref (a 2)) (C := RX7) (T := TX7) (N := 10) (host := "MotionPost") (ref := "MotionPost$State") hx hb hts (by decide +kernel) hown hC.K hP 1 rfl rfl 0 (by decide) (hC.nestW 2 rfl rfl) (fun _ h9 => h9) rfl dX8_scrollDrawn_18 ?_
  refine lv_aload_n hx hb dX8_scrollDrawn_21 rfl (lv_at hl 0 rfl) ?_
  refine va_get (D := gD G) (cl := vwCl) (tys := tyl G) (ci := 7) (v := .ref (a 18)) (C := RX8) (T := TX8) (N := 8) hx hb hts (by decide +kernel) hown hC.K hP 0 rfl rfl 3 (by decide) (hts (.fieldLink RX8 33 "MotionPost" "before" "LMotionPost$Picture;") (by decide +kernel)) (fun _ h9 => h9) rfl dX8_scrollDrawn_22 ?_
  refine lv_iload_n hx hb dX8_scrollDrawn_25 rfl (lv_at hl 1 rfl) ?_
  refine lv_iload_n hx hb dX8_scrollDrawn_26 rfl (lv_at hl 2 rfl) ?_
  refine kMi (va_runVN (As := [.ref (a 18), .int (iI (dy)), .int (iI (dx))]) (rest := []) ⟨hx, hb, hml, hown, hts⟩ (c_X4_takeMoved (a 2) (a 3) v.1 (a 18) (a 19) v.1 dy dx (by first | assumption | omega) (by first | assumption | omega) (by first | assumption | omega) (by first | assumption | omega) (hP.sub [2, 3, 18, 19] rfl) ((hD.sub [2, 3, 18, 19] (by decide) rfl).weaken (fun _ _ _ h => hLo _ h))) ⟨va_cnB 3 hts gX8_scrollDrawn_X4_takeMoved_n255 rfl rfl rfl (hC.nest 56 rfl) (hts (.initialized RX4) (by decide +kernel)) (by decide +kernel) ⟨Nat.le_of_ble_eq_true rfl, Nat.le_of_ble_eq_true rfl⟩, (hts (.instanceMethod yX4_takeMoved) (by decide +kernel)), (hts (.selects RX4 yX4_takeMoved yX4_takeMoved) (by decide +kernel))⟩ (preV hC hS hLo hP (ci := 3) (q0 := 2) rfl rfl) rfl rfl hl.1 rfl (lv_room (Nat.le_of_ble_eq_true rfl)) dX8_scrollDrawn_27 ⟨Nat.zero_le _, Nat.zero_le _⟩) hP hD hS hA [2, 3, 18, 19] (by decide) rfl (fun _ => rfl) (fun r_6 u_4 H locs q_5 hP hD hS => ?_)
  have hP : PP G (xW G a ((tkm v.1 dy dx v.1 64).1, v.2.1, v.2.2.1, v.2.2.2.1, v.2.2.2.2.1, v.2.2.2.2.2.1, v.2.2.2.2.2.2.1, v.2.2.2.2.2.2.2.1, v.2.2.2.2.2.2.2.2.1, v.2.2.2.2.2.2.2.2.2) mo ki pr df co bi g9 lr v.1 tn ln nx ct hv v0 k0 v1 k1) H := hP
  have hD : va_D A (xW G a ((tkm v.1 dy dx v.1 64).1, v.2.1, v.2.2.1, v.2.2.2.1, v.2.2.2.2.1, v.2.2.2.2.2.1, v.2.2.2.2.2.2.1, v.2.2.2.2.2.2.2.1, v.2.2.2.2.2.2.2.2.1, v.2.2.2.2.2.2.2.2.2) mo ki pr df co bi g9 lr v.1 tn ln nx ct hv v0 k0 v1 k1) := hD
  refine topE (v' := nI ((tkm v.1 dy dx v.1 64).2)) (q_5) ?_
  exact xMi (G := G) (post := (fun (r : Int32) (u : Unit) => r = nI ((tkm v.1 dy dx v.1 64).2))) (w1 := (fun (u : Unit) => xW G a ((tkm v.1 dy dx v.1 64).1, v.2.1, v.2.2.1, v.2.2.2.1, v.2.2.2.2.1, v.2.2.2.2.2.1, v.2.2.2.2.2.2.1, v.2.2.2.2.2.2.2.1, v.2.2.2.2.2.2.2.2.1, v.2.2.2.2.2.2.2.2.2) mo ki pr df co bi g9 lr v.1 tn ln nx ct hv v0 k0 v1 k1)) (()) hx hb hr hlocks hP hS (by exact rfl) (by exact rfl) dX8_scrollDrawn_30
