theorem csF_le : ∀ n r c, csF n r c ≤ c + n
  | 0, r, c => by unfold csF; split <;> omega
  | n + 1, r, c => by
    have h := csF_le n (r / 256) (c + 1)
    unfold csF
    (repeat' split) <;> omega
theorem CS_le (u : Nat) : CS u ≤ 8 := by have := csF_le 8 u 0; unfold CS; omega
theorem feF_in (tn : Nat → Nat) (ln : Nat) : ∀ n i, i + n ≤ ln → -1 ≤ feF tn ln n i ∧ feF tn ln n i ≤ ln
  | 0, i, h => by unfold feF; split <;> omega
  | n + 1, i, h => by
    have := feF_in tn ln n (i + 1) (by omega)
    unfold feF
    split <;> omega
theorem FE_in (tn : Nat → Nat) (ln : Nat) : -1 ≤ FE tn ln ∧ FE tn ln ≤ ln := feF_in tn ln ln 0 (by omega)

set_option maxHeartbeats 4000000 in
set_option maxRecDepth 100000 in
theorem c_X8_requirePixel_x {l : Launch} {G : GT} {H0 : Heap} (p : Int32) (hbad : p.toInt < 0 ∨ 64 ≤ p.toInt) (hfl : l.stackTraces = false) : vx_Met l yX8_requirePixel wsX8_requirePixel ({ frames := 6, cells := 1, slots := 6, locals := 82 } : Room) (pcX G [.int (p)] H0) qF (qE "java/lang/IndexOutOfBoundsException") 1 6 noF := by
  refine enterX (cc := cX8_requirePixel) (maxL := 1) (ret := none) (own := RX8) (lv := [(0, .int (p))]) (by decide) rfl rfl rfl (Nat.le_of_ble_eq_true rfl) ?_
  intro pg ev s m below meth c hx hb hT hts hown hlocks hml hH hCX ls hl
  subst hH
  have hC := hCX.1
  have hLo : ∀ q, noF q → lo G q := fun _ h => h.elim
  have hS : va_S noF s.heap s.heap [] := va_S.rf
  generalize ([] : List Loc) = locs at hS ⊢
  refine lv_iload_n hx hb dX8_requirePixel_0 rfl (lv_at hl 0 rfl) ?_
  refine lv_if_lt (tgt := 10) hx hb dX8_requirePixel_1 (by decide) (fun c_1 => ?_) (fun c_1 => ?_)
  · have f_2 : Int32.toInt (p) < (0 : Int) := (c_lt rfl rfl).mp c_1
    exact tThrow (ws := wsX8_requirePixel) (cls := "java/lang/IndexOutOfBoundsException") (text := "no such pixel") (ik := 127) (is := 244) (ic := 131) (si := 0) hfl hx hb hown hCX hS hl hml hT hlocks hts (by decide +kernel) (by decide +kernel) (fun w h => List.mem_cons_of_mem _ (List.mem_append_right _ h)) fitI ngI otI rfl dX8_requirePixel_10 dX8_requirePixel_13 dX8_requirePixel_14 dX8_requirePixel_16 dX8_requirePixel_19 ⟨by decide, by decide, by decide, by decide⟩
  · have f_3 : ¬ Int32.toInt (p) < (0 : Int) := fun z => c_1 ((c_lt rfl rfl).mpr z)
    refine lv_iload_n hx hb dX8_requirePixel_4 rfl (lv_at hl 0 rfl) ?_
    refine lv_bipush (v := nI (64)) hx hb dX8_requirePixel_5 (by decide) ?_
    refine lv_icmp_lt (tgt := 20) hx hb dX8_requirePixel_7 (by decide) (fun c_4 => ?_) (fun c_4 => ?_)
    · have f_5 : Int32.toInt (p) < (64 : Int) := (c_lt rfl (nI_toInt (n := 64) (by omega))).mp c_4
      exfalso; omega
    · have f_6 : ¬ Int32.toInt (p) < (64 : Int) := fun z => c_4 ((c_lt rfl (nI_toInt (n := 64) (by omega))).mpr z)
      exact tThrow (ws := wsX8_requirePixel) (cls := "java/lang/IndexOutOfBoundsException") (text := "no such pixel") (ik := 127) (is := 244) (ic := 131) (si := 0) hfl hx hb hown hCX hS hl hml hT hlocks hts (by decide +kernel) (by decide +kernel) (fun w h => List.mem_cons_of_mem _ (List.mem_append_right _ h)) fitI ngI otI rfl dX8_requirePixel_10 dX8_requirePixel_13 dX8_requirePixel_14 dX8_requirePixel_16 dX8_requirePixel_19 ⟨by decide, by decide, by decide, by decide⟩

set_option maxHeartbeats 4000000 in
set_option maxRecDepth 100000 in
theorem c_X8_requireBlock_x {l : Launch} {G : GT} {H0 : Heap} (p : Int32) (hbad : p.toInt < 0 ∨ 4 ≤ p.toInt) (hfl : l.stackTraces = false) : vx_Met l yX8_requireBlock wsX8_requireBlock ({ frames := 6, cells := 1, slots := 6, locals := 82 } : Room) (pcX G [.int (p)] H0) qF (qE "java/lang/IndexOutOfBoundsException") 1 6 noF := by
  refine enterX (cc := cX8_requireBlock) (maxL := 1) (ret := none) (own := RX8) (lv := [(0, .int (p))]) (by decide) rfl rfl rfl (Nat.le_of_ble_eq_true rfl) ?_
  intro pg ev s m below meth c hx hb hT hts hown hlocks hml hH hCX ls hl
  subst hH
  have hC := hCX.1
  have hLo : ∀ q, noF q → lo G q := fun _ h => h.elim
  have hS : va_S noF s.heap s.heap [] := va_S.rf
  generalize ([] : List Loc) = locs at hS ⊢
  refine lv_iload_n hx hb dX8_requireBlock_0 rfl (lv_at hl 0 rfl) ?_
  refine lv_if_lt (tgt := 9) hx hb dX8_requireBlock_1 (by decide) (fun c_1 => ?_) (fun c_1 => ?_)
  · have f_2 : Int32.toInt (p) < (0 : Int) := (c_lt rfl rfl).mp c_1
    exact tThrow (ws := wsX8_requireBlock) (cls := "java/lang/IndexOutOfBoundsException") (text := "no such block") (ik := 127) (is := 246) (ic := 131) (si := 3) hfl hx hb hown hCX hS hl hml hT hlocks hts (by decide +kernel) (by decide +kernel) (fun w h => List.mem_cons_of_mem _ (List.mem_append_right _ h)) fitI ngI otI rfl dX8_requireBlock_9 dX8_requireBlock_12 dX8_requireBlock_13 dX8_requireBlock_15 dX8_requireBlock_18 ⟨by decide, by decide, by decide, by decide⟩
  · have f_3 : ¬ Int32.toInt (p) < (0 : Int) := fun z => c_1 ((c_lt rfl rfl).mpr z)
    refine lv_iload_n hx hb dX8_requireBlock_4 rfl (lv_at hl 0 rfl) ?_
    refine lv_iconst (v := nI (4)) hx hb dX8_requireBlock_5 (by decide) ?_
    refine lv_icmp_lt (tgt := 19) hx hb dX8_requireBlock_6 (by decide) (fun c_4 => ?_) (fun c_4 => ?_)
    · have f_5 : Int32.toInt (p) < (4 : Int) := (c_lt rfl (nI_toInt (n := 4) (by omega))).mp c_4
      exfalso; omega
    · have f_6 : ¬ Int32.toInt (p) < (4 : Int) := fun z => c_4 ((c_lt rfl (nI_toInt (n := 4) (by omega))).mpr z)
      exact tThrow (ws := wsX8_requireBlock) (cls := "java/lang/IndexOutOfBoundsException") (text := "no such block") (ik := 127) (is := 246) (ic := 131) (si := 3) hfl hx hb hown hCX hS hl hml hT hlocks hts (by decide +kernel) (by decide +kernel) (fun w h => List.mem_cons_of_mem _ (List.mem_append_right _ h)) fitI ngI otI rfl dX8_requireBlock_9 dX8_requireBlock_12 dX8_requireBlock_13 dX8_requireBlock_15 dX8_requireBlock_18 ⟨by decide, by decide, by decide, by decide⟩

set_option maxHeartbeats 4000000 in
set_option maxRecDepth 100000 in
theorem c_X8_requireWithin_x {l : Launch} {G : GT} {H0 : Heap} (x y z : Int32) (hbad : x.toInt < y.toInt ∨ z.toInt < x.toInt) (hfl : l.stackTraces = false) : vx_Met l yX8_requireWithin wsX8_requireWithin ({ frames := 6, cells := 1, slots := 6, locals := 82 } : Room) (pcX G [.int (x), .int (y), .int (z)] H0) qF (qE "java/lang/IllegalArgumentException") 1 6 noF := by
  refine enterX (cc := cX8_requireWithin) (maxL := 3) (ret := none) (own := RX8) (lv := [(0, .int (x)), (1, .int (y)), (2, .int (z))]) (by decide) rfl rfl rfl (Nat.le_of_ble_eq_true rfl) ?_
  intro pg ev s m below meth c hx hb hT hts hown hlocks hml hH hCX ls hl
  subst hH
  have hC := hCX.1
  have hLo : ∀ q, noF q → lo G q := fun _ h => h.elim
  have hS : va_S noF s.heap s.heap [] := va_S.rf
  generalize ([] : List Loc) = locs at hS ⊢
  refine lv_iload_n hx hb dX8_requireWithin_0 rfl (lv_at hl 0 rfl) ?_
  refine lv_iload_n hx hb dX8_requireWithin_1 rfl (lv_at hl 1 rfl) ?_
  refine lv_icmp_lt (tgt := 10) hx hb dX8_requireWithin_2 (by decide) (fun c_1 => ?_) (fun c_1 => ?_)
  · have f_2 : x < y := c_1
    exact tThrow (ws := wsX8_requireWithin) (cls := "java/lang/IllegalArgumentException") (text := "out of range") (ik := 194) (is := 250) (ic := 198) (si := 1) hfl hx hb hown hCX hS hl hml hT hlocks hts (by decide +kernel) (by decide +kernel) (fun w h => List.mem_cons_of_mem _ (List.mem_append_right _ h)) fitA ngA otA rfl dX8_requireWithin_10 dX8_requireWithin_13 dX8_requireWithin_14 dX8_requireWithin_16 dX8_requireWithin_19 ⟨by decide, by decide, by decide, by decide⟩
  · have f_3 : ¬ x < y := c_1
    refine lv_iload_n hx hb dX8_requireWithin_5 rfl (lv_at hl 0 rfl) ?_
    refine lv_iload_n hx hb dX8_requireWithin_6 rfl (lv_at hl 2 rfl) ?_
    refine lv_icmp_le (tgt := 20) hx hb dX8_requireWithin_7 (by decide) (fun c_4 => ?_) (fun c_4 => ?_)
    · have f_5 : x ≤ z := c_4
      exact hbad.elim (fun h9 => absurd (Int32.lt_iff_toInt_lt.mpr h9) f_3) (fun h9 => absurd (Int32.le_iff_toInt_le.mp f_5) (by omega))
    · have f_6 : ¬ x ≤ z := c_4
      exact tThrow (ws := wsX8_requireWithin) (cls := "java/lang/IllegalArgumentException") (text := "out of range") (ik := 194) (is := 250) (ic := 198) (si := 1) hfl hx hb hown hCX hS hl hml hT hlocks hts (by decide +kernel) (by decide +kernel) (fun w h => List.mem_cons_of_mem _ (List.mem_append_right _ h)) fitA ngA otA rfl dX8_requireWithin_10 dX8_requireWithin_13 dX8_requireWithin_14 dX8_requireWithin_16 dX8_requireWithin_19 ⟨by decide, by decide, by decide, by decide⟩

set_option maxHeartbeats 4000000 in
set_option maxRecDepth 100000 in
theorem c_X8_draw_x1 {l : Launch} {G : GT} {H0 : Heap} (h : Nat) (p x0 : Int32) (hbad : p.toInt < 0 ∨ 64 ≤ p.toInt) (hfl : l.stackTraces = false) : vx_Met l yX8_draw wsX8_draw ({ frames := 7, cells := 1, slots := 6, locals := 102 } : Room) (pcX G [.ref h, .int (p), .int (x0)] H0) qF (qE "java/lang/IndexOutOfBoundsException") 1 6 noF := by
  refine enterX (cc := cX8_draw) (maxL := 3) (ret := some .int) (own := RX8) (lv := [(0, .ref h), (1, .int (p)), (2, .int (x0))]) (by decide) rfl rfl rfl (Nat.le_of_ble_eq_true rfl) ?_
  intro pg ev s m below meth c hx hb hT hts hown hlocks hml hH hCX ls hl
  subst hH
  have hC := hCX.1
  have hLo : ∀ q, noF q → lo G q := fun _ h => h.elim
  have hS : va_S noF s.heap s.heap [] := va_S.rf
  generalize ([] : List Loc) = locs at hS ⊢
  refine lv_iload_n hx hb dX8_draw_0 rfl (lv_at hl 1 rfl) ?_
  exact tOut (vx_runS (As := [.int (p)]) (rest := []) ⟨hx, hb, hml, hown, hts⟩ (c_X8_requirePixel_x p (by first | assumption | omega) hfl) (va_cwS 1 hts gX8_draw_X8_requirePixel rfl rfl rfl (by decide +kernel) ⟨Nat.le_of_ble_eq_true rfl, Nat.le_of_ble_eq_true rfl⟩) (preSX hCX hS hLo) rfl rfl hl.1 rfl (lv_room (Nat.le_of_ble_eq_true rfl)) dX8_draw_1 ⟨Nat.le_of_ble_eq_true rfl, Nat.le_of_ble_eq_true rfl⟩) hS hT hlocks

set_option maxHeartbeats 4000000 in
set_option maxRecDepth 100000 in
theorem c_X8_fill_x1 {l : Launch} {G : GT} {H0 : Heap} (h : Nat) (p x0 x1 x2 : Int32) (hbad : p.toInt < 0 ∨ 64 ≤ p.toInt) (hfl : l.stackTraces = false) : vx_Met l yX8_fill wsX8_fill ({ frames := 7, cells := 1, slots := 6, locals := 102 } : Room) (pcX G [.ref h, .int (p), .int (x0), .int (x1), .int (x2)] H0) qF (qE "java/lang/IndexOutOfBoundsException") 1 6 noF := by
  refine enterX (cc := cX8_fill) (maxL := 5) (ret := some .int) (own := RX8) (lv := [(0, .ref h), (1, .int (p)), (2, .int (x0)), (3, .int (x1)), (4, .int (x2))]) (by decide) rfl rfl rfl (Nat.le_of_ble_eq_true rfl) ?_
  intro pg ev s m below meth c hx hb hT hts hown hlocks hml hH hCX ls hl
  subst hH
  have hC := hCX.1
  have hLo : ∀ q, noF q → lo G q := fun _ h => h.elim
  have hS : va_S noF s.heap s.heap [] := va_S.rf
  generalize ([] : List Loc) = locs at hS ⊢
  refine lv_iload_n hx hb dX8_fill_0 rfl (lv_at hl 1 rfl) ?_
  exact tOut (vx_runS (As := [.int (p)]) (rest := []) ⟨hx, hb, hml, hown, hts⟩ (c_X8_requirePixel_x p (by first | assumption | omega) hfl) (va_cwS 1 hts gX8_fill_X8_requirePixel rfl rfl rfl (by decide +kernel) ⟨Nat.le_of_ble_eq_true rfl, Nat.le_of_ble_eq_true rfl⟩) (preSX hCX hS hLo) rfl rfl hl.1 rfl (lv_room (Nat.le_of_ble_eq_true rfl)) dX8_fill_1 ⟨Nat.le_of_ble_eq_true rfl, Nat.le_of_ble_eq_true rfl⟩) hS hT hlocks

set_option maxHeartbeats 4000000 in
set_option maxRecDepth 100000 in
theorem c_X8_drawnAt_x1 {l : Launch} {G : GT} {H0 : Heap} (h : Nat) (p  : Int32) (hbad : p.toInt < 0 ∨ 64 ≤ p.toInt) (hfl : l.stackTraces = false) : vx_Met l yX8_drawnAt wsX8_drawnAt ({ frames := 7, cells := 1, slots := 6, locals := 102 } : Room) (pcX G [.ref h, .int (p)] H0) qF (qE "java/lang/IndexOutOfBoundsException") 1 6 noF := by
  refine enterX (cc := cX8_drawnAt) (maxL := 2) (ret := some .int) (own := RX8) (lv := [(0, .ref h), (1, .int (p))]) (by decide) rfl rfl rfl (Nat.le_of_ble_eq_true rfl) ?_
  intro pg ev s m below meth c hx hb hT hts hown hlocks hml hH hCX ls hl
  subst hH
  have hC := hCX.1
  have hLo : ∀ q, noF q → lo G q := fun _ h => h.elim
  have hS : va_S noF s.heap s.heap [] := va_S.rf
  generalize ([] : List Loc) = locs at hS ⊢
  refine lv_iload_n hx hb dX8_drawnAt_0 rfl (lv_at hl 1 rfl) ?_
  exact tOut (vx_runS (As := [.int (p)]) (rest := []) ⟨hx, hb, hml, hown, hts⟩ (c_X8_requirePixel_x p (by first | assumption | omega) hfl) (va_cwS 1 hts gX8_drawnAt_X8_requirePixel rfl rfl rfl (by decide +kernel) ⟨Nat.le_of_ble_eq_true rfl, Nat.le_of_ble_eq_true rfl⟩) (preSX hCX hS hLo) rfl rfl hl.1 rfl (lv_room (Nat.le_of_ble_eq_true rfl)) dX8_drawnAt_1 ⟨Nat.le_of_ble_eq_true rfl, Nat.le_of_ble_eq_true rfl⟩) hS hT hlocks

set_option maxHeartbeats 4000000 in
set_option maxRecDepth 100000 in
theorem c_X8_sentAt_x1 {l : Launch} {G : GT} {H0 : Heap} (h : Nat) (p  : Int32) (hbad : p.toInt < 0 ∨ 64 ≤ p.toInt) (hfl : l.stackTraces = false) : vx_Met l yX8_sentAt wsX8_sentAt ({ frames := 7, cells := 1, slots := 6, locals := 102 } : Room) (pcX G [.ref h, .int (p)] H0) qF (qE "java/lang/IndexOutOfBoundsException") 1 6 noF := by
  refine enterX (cc := cX8_sentAt) (maxL := 2) (ret := some .int) (own := RX8) (lv := [(0, .ref h), (1, .int (p))]) (by decide) rfl rfl rfl (Nat.le_of_ble_eq_true rfl) ?_
  intro pg ev s m below meth c hx hb hT hts hown hlocks hml hH hCX ls hl
  subst hH
  have hC := hCX.1
  have hLo : ∀ q, noF q → lo G q := fun _ h => h.elim
  have hS : va_S noF s.heap s.heap [] := va_S.rf
  generalize ([] : List Loc) = locs at hS ⊢
  refine lv_iload_n hx hb dX8_sentAt_0 rfl (lv_at hl 1 rfl) ?_
  exact tOut (vx_runS (As := [.int (p)]) (rest := []) ⟨hx, hb, hml, hown, hts⟩ (c_X8_requirePixel_x p (by first | assumption | omega) hfl) (va_cwS 1 hts gX8_sentAt_X8_requirePixel rfl rfl rfl (by decide +kernel) ⟨Nat.le_of_ble_eq_true rfl, Nat.le_of_ble_eq_true rfl⟩) (preSX hCX hS hLo) rfl rfl hl.1 rfl (lv_room (Nat.le_of_ble_eq_true rfl)) dX8_sentAt_1 ⟨Nat.le_of_ble_eq_true rfl, Nat.le_of_ble_eq_true rfl⟩) hS hT hlocks

set_option maxHeartbeats 4000000 in
set_option maxRecDepth 100000 in
theorem c_X8_receivedAt_x1 {l : Launch} {G : GT} {H0 : Heap} (h : Nat) (p  : Int32) (hbad : p.toInt < 0 ∨ 64 ≤ p.toInt) (hfl : l.stackTraces = false) : vx_Met l yX8_receivedAt wsX8_receivedAt ({ frames := 7, cells := 1, slots := 6, locals := 102 } : Room) (pcX G [.ref h, .int (p)] H0) qF (qE "java/lang/IndexOutOfBoundsException") 1 6 noF := by
  refine enterX (cc := cX8_receivedAt) (maxL := 2) (ret := some .int) (own := RX8) (lv := [(0, .ref h), (1, .int (p))]) (by decide) rfl rfl rfl (Nat.le_of_ble_eq_true rfl) ?_
  intro pg ev s m below meth c hx hb hT hts hown hlocks hml hH hCX ls hl
  subst hH
  have hC := hCX.1
  have hLo : ∀ q, noF q → lo G q := fun _ h => h.elim
  have hS : va_S noF s.heap s.heap [] := va_S.rf
  generalize ([] : List Loc) = locs at hS ⊢
  refine lv_iload_n hx hb dX8_receivedAt_0 rfl (lv_at hl 1 rfl) ?_
  exact tOut (vx_runS (As := [.int (p)]) (rest := []) ⟨hx, hb, hml, hown, hts⟩ (c_X8_requirePixel_x p (by first | assumption | omega) hfl) (va_cwS 1 hts gX8_receivedAt_X8_requirePixel rfl rfl rfl (by decide +kernel) ⟨Nat.le_of_ble_eq_true rfl, Nat.le_of_ble_eq_true rfl⟩) (preSX hCX hS hLo) rfl rfl hl.1 rfl (lv_room (Nat.le_of_ble_eq_true rfl)) dX8_receivedAt_1 ⟨Nat.le_of_ble_eq_true rfl, Nat.le_of_ble_eq_true rfl⟩) hS hT hlocks

set_option maxHeartbeats 4000000 in
set_option maxRecDepth 100000 in
theorem c_X8_distance_x1 {l : Launch} {G : GT} {H0 : Heap} (h : Nat) (p x0 : Int32) (hbad : p.toInt < 0 ∨ 4 ≤ p.toInt) (hfl : l.stackTraces = false) : vx_Met l yX8_distance wsX8_distance ({ frames := 7, cells := 1, slots := 6, locals := 102 } : Room) (pcX G [.ref h, .int (p), .int (x0)] H0) qF (qE "java/lang/IndexOutOfBoundsException") 1 6 noF := by
  refine enterX (cc := cX8_distance) (maxL := 3) (ret := some .int) (own := RX8) (lv := [(0, .ref h), (1, .int (p)), (2, .int (x0))]) (by decide) rfl rfl rfl (Nat.le_of_ble_eq_true rfl) ?_
  intro pg ev s m below meth c hx hb hT hts hown hlocks hml hH hCX ls hl
  subst hH
  have hC := hCX.1
  have hLo : ∀ q, noF q → lo G q := fun _ h => h.elim
  have hS : va_S noF s.heap s.heap [] := va_S.rf
  generalize ([] : List Loc) = locs at hS ⊢
  refine lv_iload_n hx hb dX8_distance_0 rfl (lv_at hl 1 rfl) ?_
  exact tOut (vx_runS (As := [.int (p)]) (rest := []) ⟨hx, hb, hml, hown, hts⟩ (c_X8_requireBlock_x p (by first | assumption | omega) hfl) (va_cwS 1 hts gX8_distance_X8_requireBlock rfl rfl rfl (by decide +kernel) ⟨Nat.le_of_ble_eq_true rfl, Nat.le_of_ble_eq_true rfl⟩) (preSX hCX hS hLo) rfl rfl hl.1 rfl (lv_room (Nat.le_of_ble_eq_true rfl)) dX8_distance_1 ⟨Nat.le_of_ble_eq_true rfl, Nat.le_of_ble_eq_true rfl⟩) hS hT hlocks

set_option maxHeartbeats 4000000 in
set_option maxRecDepth 100000 in
theorem c_X8_bestMove_x1 {l : Launch} {G : GT} {H0 : Heap} (h : Nat) (p  : Int32) (hbad : p.toInt < 0 ∨ 4 ≤ p.toInt) (hfl : l.stackTraces = false) : vx_Met l yX8_bestMove wsX8_bestMove ({ frames := 7, cells := 1, slots := 6, locals := 102 } : Room) (pcX G [.ref h, .int (p)] H0) qF (qE "java/lang/IndexOutOfBoundsException") 1 6 noF := by
  refine enterX (cc := cX8_bestMove) (maxL := 2) (ret := some .int) (own := RX8) (lv := [(0, .ref h), (1, .int (p))]) (by decide) rfl rfl rfl (Nat.le_of_ble_eq_true rfl) ?_
  intro pg ev s m below meth c hx hb hT hts hown hlocks hml hH hCX ls hl
  subst hH
  have hC := hCX.1
  have hLo : ∀ q, noF q → lo G q := fun _ h => h.elim
  have hS : va_S noF s.heap s.heap [] := va_S.rf
  generalize ([] : List Loc) = locs at hS ⊢
  refine lv_iload_n hx hb dX8_bestMove_0 rfl (lv_at hl 1 rfl) ?_
  exact tOut (vx_runS (As := [.int (p)]) (rest := []) ⟨hx, hb, hml, hown, hts⟩ (c_X8_requireBlock_x p (by first | assumption | omega) hfl) (va_cwS 1 hts gX8_bestMove_X8_requireBlock rfl rfl rfl (by decide +kernel) ⟨Nat.le_of_ble_eq_true rfl, Nat.le_of_ble_eq_true rfl⟩) (preSX hCX hS hLo) rfl rfl hl.1 rfl (lv_room (Nat.le_of_ble_eq_true rfl)) dX8_bestMove_1 ⟨Nat.le_of_ble_eq_true rfl, Nat.le_of_ble_eq_true rfl⟩) hS hT hlocks

set_option maxHeartbeats 4000000 in
set_option maxRecDepth 100000 in
theorem c_X8_bestMoveByStopping_x1 {l : Launch} {G : GT} {H0 : Heap} (h : Nat) (p  : Int32) (hbad : p.toInt < 0 ∨ 4 ≤ p.toInt) (hfl : l.stackTraces = false) : vx_Met l yX8_bestMoveByStopping wsX8_bestMoveByStopping ({ frames := 7, cells := 1, slots := 6, locals := 102 } : Room) (pcX G [.ref h, .int (p)] H0) qF (qE "java/lang/IndexOutOfBoundsException") 1 6 noF := by
  refine enterX (cc := cX8_bestMoveByStopping) (maxL := 2) (ret := some .int) (own := RX8) (lv := [(0, .ref h), (1, .int (p))]) (by decide) rfl rfl rfl (Nat.le_of_ble_eq_true rfl) ?_
  intro pg ev s m below meth c hx hb hT hts hown hlocks hml hH hCX ls hl
  subst hH
  have hC := hCX.1
  have hLo : ∀ q, noF q → lo G q := fun _ h => h.elim
  have hS : va_S noF s.heap s.heap [] := va_S.rf
  generalize ([] : List Loc) = locs at hS ⊢
  refine lv_iload_n hx hb dX8_bestMoveByStopping_0 rfl (lv_at hl 1 rfl) ?_
  exact tOut (vx_runS (As := [.int (p)]) (rest := []) ⟨hx, hb, hml, hown, hts⟩ (c_X8_requireBlock_x p (by first | assumption | omega) hfl) (va_cwS 1 hts gX8_bestMoveByStopping_X8_requireBlock rfl rfl rfl (by decide +kernel) ⟨Nat.le_of_ble_eq_true rfl, Nat.le_of_ble_eq_true rfl⟩) (preSX hCX hS hLo) rfl rfl hl.1 rfl (lv_room (Nat.le_of_ble_eq_true rfl)) dX8_bestMoveByStopping_1 ⟨Nat.le_of_ble_eq_true rfl, Nat.le_of_ble_eq_true rfl⟩) hS hT hlocks

set_option maxHeartbeats 4000000 in
set_option maxRecDepth 100000 in
theorem c_X8_equalMoves_x1 {l : Launch} {G : GT} {H0 : Heap} (h : Nat) (p  : Int32) (hbad : p.toInt < 0 ∨ 4 ≤ p.toInt) (hfl : l.stackTraces = false) : vx_Met l yX8_equalMoves wsX8_equalMoves ({ frames := 7, cells := 1, slots := 6, locals := 102 } : Room) (pcX G [.ref h, .int (p)] H0) qF (qE "java/lang/IndexOutOfBoundsException") 1 6 noF := by
  refine enterX (cc := cX8_equalMoves) (maxL := 2) (ret := some .int) (own := RX8) (lv := [(0, .ref h), (1, .int (p))]) (by decide) rfl rfl rfl (Nat.le_of_ble_eq_true rfl) ?_
  intro pg ev s m below meth c hx hb hT hts hown hlocks hml hH hCX ls hl
  subst hH
  have hC := hCX.1
  have hLo : ∀ q, noF q → lo G q := fun _ h => h.elim
  have hS : va_S noF s.heap s.heap [] := va_S.rf
  generalize ([] : List Loc) = locs at hS ⊢
  refine lv_iload_n hx hb dX8_equalMoves_0 rfl (lv_at hl 1 rfl) ?_
  exact tOut (vx_runS (As := [.int (p)]) (rest := []) ⟨hx, hb, hml, hown, hts⟩ (c_X8_requireBlock_x p (by first | assumption | omega) hfl) (va_cwS 1 hts gX8_equalMoves_X8_requireBlock rfl rfl rfl (by decide +kernel) ⟨Nat.le_of_ble_eq_true rfl, Nat.le_of_ble_eq_true rfl⟩) (preSX hCX hS hLo) rfl rfl hl.1 rfl (lv_room (Nat.le_of_ble_eq_true rfl)) dX8_equalMoves_1 ⟨Nat.le_of_ble_eq_true rfl, Nat.le_of_ble_eq_true rfl⟩) hS hT hlocks

set_option maxHeartbeats 4000000 in
set_option maxRecDepth 100000 in
theorem c_X8_kindWith_x1 {l : Launch} {G : GT} {H0 : Heap} (h : Nat) (p x0 : Int32) (hbad : p.toInt < 0 ∨ 4 ≤ p.toInt) (hfl : l.stackTraces = false) : vx_Met l yX8_kindWith wsX8_kindWith ({ frames := 7, cells := 1, slots := 6, locals := 102 } : Room) (pcX G [.ref h, .int (p), .int (x0)] H0) qF (qE "java/lang/IndexOutOfBoundsException") 1 6 noF := by
  refine enterX (cc := cX8_kindWith) (maxL := 3) (ret := some .int) (own := RX8) (lv := [(0, .ref h), (1, .int (p)), (2, .int (x0))]) (by decide) rfl rfl rfl (Nat.le_of_ble_eq_true rfl) ?_
  intro pg ev s m below meth c hx hb hT hts hown hlocks hml hH hCX ls hl
  subst hH
  have hC := hCX.1
  have hLo : ∀ q, noF q → lo G q := fun _ h => h.elim
  have hS : va_S noF s.heap s.heap [] := va_S.rf
  generalize ([] : List Loc) = locs at hS ⊢
  refine lv_iload_n hx hb dX8_kindWith_0 rfl (lv_at hl 1 rfl) ?_
  exact tOut (vx_runS (As := [.int (p)]) (rest := []) ⟨hx, hb, hml, hown, hts⟩ (c_X8_requireBlock_x p (by first | assumption | omega) hfl) (va_cwS 1 hts gX8_kindWith_X8_requireBlock rfl rfl rfl (by decide +kernel) ⟨Nat.le_of_ble_eq_true rfl, Nat.le_of_ble_eq_true rfl⟩) (preSX hCX hS hLo) rfl rfl hl.1 rfl (lv_room (Nat.le_of_ble_eq_true rfl)) dX8_kindWith_1 ⟨Nat.le_of_ble_eq_true rfl, Nat.le_of_ble_eq_true rfl⟩) hS hT hlocks

set_option maxHeartbeats 4000000 in
set_option maxRecDepth 100000 in
theorem c_X8_bitsWith_x1 {l : Launch} {G : GT} {H0 : Heap} (h : Nat) (p x0 : Int32) (hbad : p.toInt < 0 ∨ 4 ≤ p.toInt) (hfl : l.stackTraces = false) : vx_Met l yX8_bitsWith wsX8_bitsWith ({ frames := 7, cells := 1, slots := 6, locals := 102 } : Room) (pcX G [.ref h, .int (p), .int (x0)] H0) qF (qE "java/lang/IndexOutOfBoundsException") 1 6 noF := by
  refine enterX (cc := cX8_bitsWith) (maxL := 3) (ret := some .int) (own := RX8) (lv := [(0, .ref h), (1, .int (p)), (2, .int (x0))]) (by decide) rfl rfl rfl (Nat.le_of_ble_eq_true rfl) ?_
  intro pg ev s m below meth c hx hb hT hts hown hlocks hml hH hCX ls hl
  subst hH
  have hC := hCX.1
  have hLo : ∀ q, noF q → lo G q := fun _ h => h.elim
  have hS : va_S noF s.heap s.heap [] := va_S.rf
  generalize ([] : List Loc) = locs at hS ⊢
  refine lv_iload_n hx hb dX8_bitsWith_0 rfl (lv_at hl 1 rfl) ?_
  exact tOut (vx_runS (As := [.int (p)]) (rest := []) ⟨hx, hb, hml, hown, hts⟩ (c_X8_requireBlock_x p (by first | assumption | omega) hfl) (va_cwS 1 hts gX8_bitsWith_X8_requireBlock rfl rfl rfl (by decide +kernel) ⟨Nat.le_of_ble_eq_true rfl, Nat.le_of_ble_eq_true rfl⟩) (preSX hCX hS hLo) rfl rfl hl.1 rfl (lv_room (Nat.le_of_ble_eq_true rfl)) dX8_bitsWith_1 ⟨Nat.le_of_ble_eq_true rfl, Nat.le_of_ble_eq_true rfl⟩) hS hT hlocks

set_option maxHeartbeats 4000000 in
set_option maxRecDepth 100000 in
theorem c_X8_bitsByWriting_x1 {l : Launch} {G : GT} {H0 : Heap} (h : Nat) (p x0 : Int32) (hbad : p.toInt < 0 ∨ 4 ≤ p.toInt) (hfl : l.stackTraces = false) : vx_Met l yX8_bitsByWriting wsX8_bitsByWriting ({ frames := 7, cells := 1, slots := 6, locals := 102 } : Room) (pcX G [.ref h, .int (p), .int (x0)] H0) qF (qE "java/lang/IndexOutOfBoundsException") 1 6 noF := by
  refine enterX (cc := cX8_bitsByWriting) (maxL := 3) (ret := some .int) (own := RX8) (lv := [(0, .ref h), (1, .int (p)), (2, .int (x0))]) (by decide) rfl rfl rfl (Nat.le_of_ble_eq_true rfl) ?_
  intro pg ev s m below meth c hx hb hT hts hown hlocks hml hH hCX ls hl
  subst hH
  have hC := hCX.1
  have hLo : ∀ q, noF q → lo G q := fun _ h => h.elim
  have hS : va_S noF s.heap s.heap [] := va_S.rf
  generalize ([] : List Loc) = locs at hS ⊢
  refine lv_iload_n hx hb dX8_bitsByWriting_0 rfl (lv_at hl 1 rfl) ?_
  exact tOut (vx_runS (As := [.int (p)]) (rest := []) ⟨hx, hb, hml, hown, hts⟩ (c_X8_requireBlock_x p (by first | assumption | omega) hfl) (va_cwS 1 hts gX8_bitsByWriting_X8_requireBlock rfl rfl rfl (by decide +kernel) ⟨Nat.le_of_ble_eq_true rfl, Nat.le_of_ble_eq_true rfl⟩) (preSX hCX hS hLo) rfl rfl hl.1 rfl (lv_room (Nat.le_of_ble_eq_true rfl)) dX8_bitsByWriting_1 ⟨Nat.le_of_ble_eq_true rfl, Nat.le_of_ble_eq_true rfl⟩) hS hT hlocks

set_option maxHeartbeats 4000000 in
set_option maxRecDepth 100000 in
theorem c_X8_lastKind_x1 {l : Launch} {G : GT} {H0 : Heap} (h : Nat) (p  : Int32) (hbad : p.toInt < 0 ∨ 4 ≤ p.toInt) (hfl : l.stackTraces = false) : vx_Met l yX8_lastKind wsX8_lastKind ({ frames := 7, cells := 1, slots := 6, locals := 102 } : Room) (pcX G [.ref h, .int (p)] H0) qF (qE "java/lang/IndexOutOfBoundsException") 1 6 noF := by
  refine enterX (cc := cX8_lastKind) (maxL := 2) (ret := some .int) (own := RX8) (lv := [(0, .ref h), (1, .int (p))]) (by decide) rfl rfl rfl (Nat.le_of_ble_eq_true rfl) ?_
  intro pg ev s m below meth c hx hb hT hts hown hlocks hml hH hCX ls hl
  subst hH
  have hC := hCX.1
  have hLo : ∀ q, noF q → lo G q := fun _ h => h.elim
  have hS : va_S noF s.heap s.heap [] := va_S.rf
  generalize ([] : List Loc) = locs at hS ⊢
  refine lv_iload_n hx hb dX8_lastKind_0 rfl (lv_at hl 1 rfl) ?_
  exact tOut (vx_runS (As := [.int (p)]) (rest := []) ⟨hx, hb, hml, hown, hts⟩ (c_X8_requireBlock_x p (by first | assumption | omega) hfl) (va_cwS 1 hts gX8_lastKind_X8_requireBlock rfl rfl rfl (by decide +kernel) ⟨Nat.le_of_ble_eq_true rfl, Nat.le_of_ble_eq_true rfl⟩) (preSX hCX hS hLo) rfl rfl hl.1 rfl (lv_room (Nat.le_of_ble_eq_true rfl)) dX8_lastKind_1 ⟨Nat.le_of_ble_eq_true rfl, Nat.le_of_ble_eq_true rfl⟩) hS hT hlocks

set_option maxHeartbeats 4000000 in
set_option maxRecDepth 100000 in
theorem c_X8_lastMove_x1 {l : Launch} {G : GT} {H0 : Heap} (h : Nat) (p  : Int32) (hbad : p.toInt < 0 ∨ 4 ≤ p.toInt) (hfl : l.stackTraces = false) : vx_Met l yX8_lastMove wsX8_lastMove ({ frames := 7, cells := 1, slots := 6, locals := 102 } : Room) (pcX G [.ref h, .int (p)] H0) qF (qE "java/lang/IndexOutOfBoundsException") 1 6 noF := by
  refine enterX (cc := cX8_lastMove) (maxL := 2) (ret := some .int) (own := RX8) (lv := [(0, .ref h), (1, .int (p))]) (by decide) rfl rfl rfl (Nat.le_of_ble_eq_true rfl) ?_
  intro pg ev s m below meth c hx hb hT hts hown hlocks hml hH hCX ls hl
  subst hH
  have hC := hCX.1
  have hLo : ∀ q, noF q → lo G q := fun _ h => h.elim
  have hS : va_S noF s.heap s.heap [] := va_S.rf
  generalize ([] : List Loc) = locs at hS ⊢
  refine lv_iload_n hx hb dX8_lastMove_0 rfl (lv_at hl 1 rfl) ?_
  exact tOut (vx_runS (As := [.int (p)]) (rest := []) ⟨hx, hb, hml, hown, hts⟩ (c_X8_requireBlock_x p (by first | assumption | omega) hfl) (va_cwS 1 hts gX8_lastMove_X8_requireBlock rfl rfl rfl (by decide +kernel) ⟨Nat.le_of_ble_eq_true rfl, Nat.le_of_ble_eq_true rfl⟩) (preSX hCX hS hLo) rfl rfl hl.1 rfl (lv_room (Nat.le_of_ble_eq_true rfl)) dX8_lastMove_1 ⟨Nat.le_of_ble_eq_true rfl, Nat.le_of_ble_eq_true rfl⟩) hS hT hlocks

set_option maxHeartbeats 4000000 in
set_option maxRecDepth 100000 in
theorem c_X8_draw_x2 {l : Launch} {G : GT} {H0 : Heap} (h p : Nat) (w : Int32) (hp : p < 64) (hbad : w.toInt < 0 ∨ 15 < w.toInt) (hfl : l.stackTraces = false) : vx_Met l yX8_draw wsX8_draw ({ frames := 7, cells := 1, slots := 6, locals := 104 } : Room) (pcX G [.ref h, .int (nI (p)), .int (w)] H0) qF (qE "java/lang/IllegalArgumentException") 1 6 noF := by
  refine enterX (cc := cX8_draw) (maxL := 3) (ret := some .int) (own := RX8) (lv := [(0, .ref h), (1, .int (nI (p))), (2, .int (w))]) (by decide) rfl rfl rfl (Nat.le_of_ble_eq_true rfl) ?_
  intro pg ev s m below meth c hx hb hT hts hown hlocks hml hH hCX ls hl
  subst hH
  have hC := hCX.1
  have hLo : ∀ q, noF q → lo G q := fun _ h => h.elim
  have hS : va_S noF s.heap s.heap [] := va_S.rf
  generalize ([] : List Loc) = locs at hS ⊢
  refine lv_iload_n hx hb dX8_draw_0 rfl (lv_at hl 1 rfl) ?_
  refine kPv (va_runS (As := [.int (nI (p))]) (rest := []) ⟨hx, hb, hml, hown, hts⟩ (c_X8_requirePixel p (by first | assumption | omega)) (va_cwS 1 hts gX8_draw_X8_requirePixel rfl rfl rfl (by decide +kernel) ⟨Nat.le_of_ble_eq_true rfl, Nat.le_of_ble_eq_true rfl⟩) (preS hC hS hLo) rfl rfl hl.1 rfl (lv_room (Nat.le_of_ble_eq_true rfl)) dX8_draw_1 ⟨Nat.zero_le _, Nat.zero_le _⟩) hS (fun locs hS => ?_)
  refine lv_iload_n hx hb dX8_draw_4 rfl (lv_at hl 2 rfl) ?_
  refine lv_iconst (v := nI (0)) hx hb dX8_draw_5 (by decide) ?_
  refine lv_bipush (v := nI (15)) hx hb dX8_draw_6 (by decide) ?_
  exact tOut (vx_runS (As := [.int (w), .int (nI (0)), .int (nI (15))]) (rest := []) ⟨hx, hb, hml, hown, hts⟩ (c_X8_requireWithin_x w (nI (0)) (nI (15)) (by show _ < (0 : Int) ∨ (15 : Int) < _; exact hbad) hfl) (va_cwS 3 hts gX8_draw_X8_requireWithin rfl rfl rfl (by decide +kernel) ⟨Nat.le_of_ble_eq_true rfl, Nat.le_of_ble_eq_true rfl⟩) (preSX hCX hS hLo) rfl rfl hl.1 rfl (lv_room (Nat.le_of_ble_eq_true rfl)) dX8_draw_8 ⟨Nat.le_of_ble_eq_true rfl, Nat.le_of_ble_eq_true rfl⟩) hS hT hlocks

set_option maxHeartbeats 4000000 in
set_option maxRecDepth 100000 in
theorem c_X8_fill_x2a {l : Launch} {G : GT} {H0 : Heap} (h p : Nat) (x0 x1 x2 : Int32) (hp : p < 64) (hbad : x0.toInt < 1 ∨ 8 < x0.toInt) (hfl : l.stackTraces = false) : vx_Met l yX8_fill wsX8_fill ({ frames := 7, cells := 1, slots := 6, locals := 104 } : Room) (pcX G [.ref h, .int (nI (p)), .int (x0), .int (x1), .int (x2)] H0) qF (qE "java/lang/IllegalArgumentException") 1 6 noF := by
  refine enterX (cc := cX8_fill) (maxL := 5) (ret := some .int) (own := RX8) (lv := [(0, .ref h), (1, .int (nI (p))), (2, .int (x0)), (3, .int (x1)), (4, .int (x2))]) (by decide) rfl rfl rfl (Nat.le_of_ble_eq_true rfl) ?_
  intro pg ev s m below meth c hx hb hT hts hown hlocks hml hH hCX ls hl
  subst hH
  have hC := hCX.1
  have hLo : ∀ q, noF q → lo G q := fun _ h => h.elim
  have hS : va_S noF s.heap s.heap [] := va_S.rf
  generalize ([] : List Loc) = locs at hS ⊢
  refine lv_iload_n hx hb dX8_fill_0 rfl (lv_at hl 1 rfl) ?_
  refine kPv (va_runS (As := [.int (nI (p))]) (rest := []) ⟨hx, hb, hml, hown, hts⟩ (c_X8_requirePixel p (by first | assumption | omega)) (va_cwS 1 hts gX8_fill_X8_requirePixel rfl rfl rfl (by decide +kernel) ⟨Nat.le_of_ble_eq_true rfl, Nat.le_of_ble_eq_true rfl⟩) (preS hC hS hLo) rfl rfl hl.1 rfl (lv_room (Nat.le_of_ble_eq_true rfl)) dX8_fill_1 ⟨Nat.zero_le _, Nat.zero_le _⟩) hS (fun locs hS => ?_)
  refine lv_iload_n hx hb dX8_fill_4 rfl (lv_at hl 2 rfl) ?_
  refine lv_iconst (v := nI (1)) hx hb dX8_fill_5 (by decide) ?_
  refine lv_bipush (v := nI (8)) hx hb dX8_fill_6 (by decide) ?_
  exact tOut (vx_runS (As := [.int (x0), .int (nI (1)), .int (nI (8))]) (rest := []) ⟨hx, hb, hml, hown, hts⟩ (c_X8_requireWithin_x x0 (nI (1)) (nI (8)) (by show _ < (1 : Int) ∨ (8 : Int) < _; exact hbad) hfl) (va_cwS 3 hts gX8_fill_X8_requireWithin rfl rfl rfl (by decide +kernel) ⟨Nat.le_of_ble_eq_true rfl, Nat.le_of_ble_eq_true rfl⟩) (preSX hCX hS hLo) rfl rfl hl.1 rfl (lv_room (Nat.le_of_ble_eq_true rfl)) dX8_fill_8 ⟨Nat.le_of_ble_eq_true rfl, Nat.le_of_ble_eq_true rfl⟩) hS hT hlocks

set_option maxHeartbeats 4000000 in
set_option maxRecDepth 100000 in
theorem c_X8_fill_x2b {l : Launch} {G : GT} {H0 : Heap} (h p : Nat) (x0 x1 x2 : Int32) (hp : p < 64) (h0 : 1 ≤ x0.toInt ∧ x0.toInt ≤ 8) (hbad : x1.toInt < 1 ∨ 8 < x1.toInt) (hfl : l.stackTraces = false) : vx_Met l yX8_fill wsX8_fill ({ frames := 7, cells := 1, slots := 6, locals := 104 } : Room) (pcX G [.ref h, .int (nI (p)), .int (x0), .int (x1), .int (x2)] H0) qF (qE "java/lang/IllegalArgumentException") 1 6 noF := by
  refine enterX (cc := cX8_fill) (maxL := 5) (ret := some .int) (own := RX8) (lv := [(0, .ref h), (1, .int (nI (p))), (2, .int (x0)), (3, .int (x1)), (4, .int (x2))]) (by decide) rfl rfl rfl (Nat.le_of_ble_eq_true rfl) ?_
  intro pg ev s m below meth c hx hb hT hts hown hlocks hml hH hCX ls hl
  subst hH
  have hC := hCX.1
  have hLo : ∀ q, noF q → lo G q := fun _ h => h.elim
  have hS : va_S noF s.heap s.heap [] := va_S.rf
  generalize ([] : List Loc) = locs at hS ⊢
  refine lv_iload_n hx hb dX8_fill_0 rfl (lv_at hl 1 rfl) ?_
  refine kPv (va_runS (As := [.int (nI (p))]) (rest := []) ⟨hx, hb, hml, hown, hts⟩ (c_X8_requirePixel p (by first | assumption | omega)) (va_cwS 1 hts gX8_fill_X8_requirePixel rfl rfl rfl (by decide +kernel) ⟨Nat.le_of_ble_eq_true rfl, Nat.le_of_ble_eq_true rfl⟩) (preS hC hS hLo) rfl rfl hl.1 rfl (lv_room (Nat.le_of_ble_eq_true rfl)) dX8_fill_1 ⟨Nat.zero_le _, Nat.zero_le _⟩) hS (fun locs hS => ?_)
  refine lv_iload_n hx hb dX8_fill_4 rfl (lv_at hl 2 rfl) ?_
  refine lv_iconst (v := nI (1)) hx hb dX8_fill_5 (by decide) ?_
  refine lv_bipush (v := nI (8)) hx hb dX8_fill_6 (by decide) ?_
  refine kPv (va_runS (As := [.int (x0), .int (nI (1)), .int (nI (8))]) (rest := []) ⟨hx, hb, hml, hown, hts⟩ (c_X8_requireWithin x0 (nI (1)) (nI (8)) (by show (1 : Int) ≤ _; exact h0.1) (by show _ ≤ (8 : Int); exact h0.2)) (va_cwS 3 hts gX8_fill_X8_requireWithin rfl rfl rfl (by decide +kernel) ⟨Nat.le_of_ble_eq_true rfl, Nat.le_of_ble_eq_true rfl⟩) (preS hC hS hLo) rfl rfl hl.1 rfl (lv_room (Nat.le_of_ble_eq_true rfl)) dX8_fill_8 ⟨Nat.zero_le _, Nat.zero_le _⟩) hS (fun locs hS => ?_)
  refine lv_iload_n hx hb dX8_fill_11 rfl (lv_at hl 3 rfl) ?_
  refine lv_iconst (v := nI (1)) hx hb dX8_fill_12 (by decide) ?_
  refine lv_bipush (v := nI (8)) hx hb dX8_fill_13 (by decide) ?_
  exact tOut (vx_runS (As := [.int (x1), .int (nI (1)), .int (nI (8))]) (rest := []) ⟨hx, hb, hml, hown, hts⟩ (c_X8_requireWithin_x x1 (nI (1)) (nI (8)) (by show _ < (1 : Int) ∨ (8 : Int) < _; exact hbad) hfl) (va_cwS 3 hts gX8_fill_X8_requireWithin rfl rfl rfl (by decide +kernel) ⟨Nat.le_of_ble_eq_true rfl, Nat.le_of_ble_eq_true rfl⟩) (preSX hCX hS hLo) rfl rfl hl.1 rfl (lv_room (Nat.le_of_ble_eq_true rfl)) dX8_fill_15 ⟨Nat.le_of_ble_eq_true rfl, Nat.le_of_ble_eq_true rfl⟩) hS hT hlocks

set_option maxHeartbeats 4000000 in
set_option maxRecDepth 100000 in
theorem c_X8_fill_x2c {l : Launch} {G : GT} {H0 : Heap} (h p : Nat) (x0 x1 x2 : Int32) (hp : p < 64) (h0 : 1 ≤ x0.toInt ∧ x0.toInt ≤ 8) (h1 : 1 ≤ x1.toInt ∧ x1.toInt ≤ 8) (hbad : x2.toInt < 0 ∨ 15 < x2.toInt) (hfl : l.stackTraces = false) : vx_Met l yX8_fill wsX8_fill ({ frames := 7, cells := 1, slots := 6, locals := 104 } : Room) (pcX G [.ref h, .int (nI (p)), .int (x0), .int (x1), .int (x2)] H0) qF (qE "java/lang/IllegalArgumentException") 1 6 noF := by
  refine enterX (cc := cX8_fill) (maxL := 5) (ret := some .int) (own := RX8) (lv := [(0, .ref h), (1, .int (nI (p))), (2, .int (x0)), (3, .int (x1)), (4, .int (x2))]) (by decide) rfl rfl rfl (Nat.le_of_ble_eq_true rfl) ?_
  intro pg ev s m below meth c hx hb hT hts hown hlocks hml hH hCX ls hl
  subst hH
  have hC := hCX.1
  have hLo : ∀ q, noF q → lo G q := fun _ h => h.elim
  have hS : va_S noF s.heap s.heap [] := va_S.rf
  generalize ([] : List Loc) = locs at hS ⊢
  refine lv_iload_n hx hb dX8_fill_0 rfl (lv_at hl 1 rfl) ?_
  refine kPv (va_runS (As := [.int (nI (p))]) (rest := []) ⟨hx, hb, hml, hown, hts⟩ (c_X8_requirePixel p (by first | assumption | omega)) (va_cwS 1 hts gX8_fill_X8_requirePixel rfl rfl rfl (by decide +kernel) ⟨Nat.le_of_ble_eq_true rfl, Nat.le_of_ble_eq_true rfl⟩) (preS hC hS hLo) rfl rfl hl.1 rfl (lv_room (Nat.le_of_ble_eq_true rfl)) dX8_fill_1 ⟨Nat.zero_le _, Nat.zero_le _⟩) hS (fun locs hS => ?_)
  refine lv_iload_n hx hb dX8_fill_4 rfl (lv_at hl 2 rfl) ?_
  refine lv_iconst (v := nI (1)) hx hb dX8_fill_5 (by decide) ?_
  refine lv_bipush (v := nI (8)) hx hb dX8_fill_6 (by decide) ?_
  refine kPv (va_runS (As := [.int (x0), .int (nI (1)), .int (nI (8))]) (rest := []) ⟨hx, hb, hml, hown, hts⟩ (c_X8_requireWithin x0 (nI (1)) (nI (8)) (by show (1 : Int) ≤ _; exact h0.1) (by show _ ≤ (8 : Int); exact h0.2)) (va_cwS 3 hts gX8_fill_X8_requireWithin rfl rfl rfl (by decide +kernel) ⟨Nat.le_of_ble_eq_true rfl, Nat.le_of_ble_eq_true rfl⟩) (preS hC hS hLo) rfl rfl hl.1 rfl (lv_room (Nat.le_of_ble_eq_true rfl)) dX8_fill_8 ⟨Nat.zero_le _, Nat.zero_le _⟩) hS (fun locs hS => ?_)
  refine lv_iload_n hx hb dX8_fill_11 rfl (lv_at hl 3 rfl) ?_
  refine lv_iconst (v := nI (1)) hx hb dX8_fill_12 (by decide) ?_
  refine lv_bipush (v := nI (8)) hx hb dX8_fill_13 (by decide) ?_
  refine kPv (va_runS (As := [.int (x1), .int (nI (1)), .int (nI (8))]) (rest := []) ⟨hx, hb, hml, hown, hts⟩ (c_X8_requireWithin x1 (nI (1)) (nI (8)) (by show (1 : Int) ≤ _; exact h1.1) (by show _ ≤ (8 : Int); exact h1.2)) (va_cwS 3 hts gX8_fill_X8_requireWithin rfl rfl rfl (by decide +kernel) ⟨Nat.le_of_ble_eq_true rfl, Nat.le_of_ble_eq_true rfl⟩) (preS hC hS hLo) rfl rfl hl.1 rfl (lv_room (Nat.le_of_ble_eq_true rfl)) dX8_fill_15 ⟨Nat.zero_le _, Nat.zero_le _⟩) hS (fun locs hS => ?_)
  refine lv_iload hx hb dX8_fill_18 (lv_at hl 4 rfl) ?_
  refine lv_iconst (v := nI (0)) hx hb dX8_fill_20 (by decide) ?_
  refine lv_bipush (v := nI (15)) hx hb dX8_fill_21 (by decide) ?_
  exact tOut (vx_runS (As := [.int (x2), .int (nI (0)), .int (nI (15))]) (rest := []) ⟨hx, hb, hml, hown, hts⟩ (c_X8_requireWithin_x x2 (nI (0)) (nI (15)) (by show _ < (0 : Int) ∨ (15 : Int) < _; exact hbad) hfl) (va_cwS 3 hts gX8_fill_X8_requireWithin rfl rfl rfl (by decide +kernel) ⟨Nat.le_of_ble_eq_true rfl, Nat.le_of_ble_eq_true rfl⟩) (preSX hCX hS hLo) rfl rfl hl.1 rfl (lv_room (Nat.le_of_ble_eq_true rfl)) dX8_fill_23 ⟨Nat.le_of_ble_eq_true rfl, Nat.le_of_ble_eq_true rfl⟩) hS hT hlocks

set_option maxHeartbeats 4000000 in
set_option maxRecDepth 100000 in
theorem c_X8_scroll_x1a {l : Launch} {G : GT} {H0 : Heap} (h : Nat) (x0 x1 : Int32) (hbad : x0.toInt < -2 ∨ 2 < x0.toInt) (hfl : l.stackTraces = false) : vx_Met l yX8_scroll wsX8_scroll ({ frames := 7, cells := 1, slots := 6, locals := 104 } : Room) (pcX G [.ref h, .int (x0), .int (x1)] H0) qF (qE "java/lang/IllegalArgumentException") 1 6 noF := by
  refine enterX (cc := cX8_scroll) (maxL := 3) (ret := some .int) (own := RX8) (lv := [(0, .ref h), (1, .int (x0)), (2, .int (x1))]) (by decide) rfl rfl rfl (Nat.le_of_ble_eq_true rfl) ?_
  intro pg ev s m below meth c hx hb hT hts hown hlocks hml hH hCX ls hl
  subst hH
  have hC := hCX.1
  have hLo : ∀ q, noF q → lo G q := fun _ h => h.elim
  have hS : va_S noF s.heap s.heap [] := va_S.rf
  generalize ([] : List Loc) = locs at hS ⊢
  refine lv_iload_n hx hb dX8_scroll_0 rfl (lv_at hl 1 rfl) ?_
  refine lv_bipush (v := iI (-2)) hx hb dX8_scroll_1 (by decide) ?_
  refine lv_iconst (v := nI (2)) hx hb dX8_scroll_3 (by decide) ?_
  exact tOut (vx_runS (As := [.int (x0), .int (iI (-2)), .int (nI (2))]) (rest := []) ⟨hx, hb, hml, hown, hts⟩ (c_X8_requireWithin_x x0 (iI (-2)) (nI (2)) ((by rw [iI_toInt (by omega) (by omega)]; show _ < _ ∨ (2 : Int) < _; exact hbad)) hfl) (va_cwS 3 hts gX8_scroll_X8_requireWithin rfl rfl rfl (by decide +kernel) ⟨Nat.le_of_ble_eq_true rfl, Nat.le_of_ble_eq_true rfl⟩) (preSX hCX hS hLo) rfl rfl hl.1 rfl (lv_room (Nat.le_of_ble_eq_true rfl)) dX8_scroll_4 ⟨Nat.le_of_ble_eq_true rfl, Nat.le_of_ble_eq_true rfl⟩) hS hT hlocks

set_option maxHeartbeats 4000000 in
set_option maxRecDepth 100000 in
theorem c_X8_scroll_x1b {l : Launch} {G : GT} {H0 : Heap} (h : Nat) (x0 x1 : Int32) (h0 : -2 ≤ x0.toInt ∧ x0.toInt ≤ 2) (hbad : x1.toInt < -2 ∨ 2 < x1.toInt) (hfl : l.stackTraces = false) : vx_Met l yX8_scroll wsX8_scroll ({ frames := 7, cells := 1, slots := 6, locals := 104 } : Room) (pcX G [.ref h, .int (x0), .int (x1)] H0) qF (qE "java/lang/IllegalArgumentException") 1 6 noF := by
  refine enterX (cc := cX8_scroll) (maxL := 3) (ret := some .int) (own := RX8) (lv := [(0, .ref h), (1, .int (x0)), (2, .int (x1))]) (by decide) rfl rfl rfl (Nat.le_of_ble_eq_true rfl) ?_
  intro pg ev s m below meth c hx hb hT hts hown hlocks hml hH hCX ls hl
  subst hH
  have hC := hCX.1
  have hLo : ∀ q, noF q → lo G q := fun _ h => h.elim
  have hS : va_S noF s.heap s.heap [] := va_S.rf
  generalize ([] : List Loc) = locs at hS ⊢
  refine lv_iload_n hx hb dX8_scroll_0 rfl (lv_at hl 1 rfl) ?_
  refine lv_bipush (v := iI (-2)) hx hb dX8_scroll_1 (by decide) ?_
  refine lv_iconst (v := nI (2)) hx hb dX8_scroll_3 (by decide) ?_
  refine kPv (va_runS (As := [.int (x0), .int (iI (-2)), .int (nI (2))]) (rest := []) ⟨hx, hb, hml, hown, hts⟩ (c_X8_requireWithin x0 (iI (-2)) (nI (2)) (by rw [iI_toInt (by omega) (by omega)]; exact h0.1) (by show _ ≤ (2 : Int); exact h0.2)) (va_cwS 3 hts gX8_scroll_X8_requireWithin rfl rfl rfl (by decide +kernel) ⟨Nat.le_of_ble_eq_true rfl, Nat.le_of_ble_eq_true rfl⟩) (preS hC hS hLo) rfl rfl hl.1 rfl (lv_room (Nat.le_of_ble_eq_true rfl)) dX8_scroll_4 ⟨Nat.zero_le _, Nat.zero_le _⟩) hS (fun locs hS => ?_)
  refine lv_iload_n hx hb dX8_scroll_7 rfl (lv_at hl 2 rfl) ?_
  refine lv_bipush (v := iI (-2)) hx hb dX8_scroll_8 (by decide) ?_
  refine lv_iconst (v := nI (2)) hx hb dX8_scroll_10 (by decide) ?_
  exact tOut (vx_runS (As := [.int (x1), .int (iI (-2)), .int (nI (2))]) (rest := []) ⟨hx, hb, hml, hown, hts⟩ (c_X8_requireWithin_x x1 (iI (-2)) (nI (2)) ((by rw [iI_toInt (by omega) (by omega)]; show _ < _ ∨ (2 : Int) < _; exact hbad)) hfl) (va_cwS 3 hts gX8_scroll_X8_requireWithin rfl rfl rfl (by decide +kernel) ⟨Nat.le_of_ble_eq_true rfl, Nat.le_of_ble_eq_true rfl⟩) (preSX hCX hS hLo) rfl rfl hl.1 rfl (lv_room (Nat.le_of_ble_eq_true rfl)) dX8_scroll_11 ⟨Nat.le_of_ble_eq_true rfl, Nat.le_of_ble_eq_true rfl⟩) hS hT hlocks

set_option maxHeartbeats 4000000 in
set_option maxRecDepth 100000 in
theorem c_X8_setBudget_x1 {l : Launch} {G : GT} {H0 : Heap} (h : Nat) (x0 : Int32) (hbad : x0.toInt < 4 ∨ 300 < x0.toInt) (hfl : l.stackTraces = false) : vx_Met l yX8_setBudget wsX8_setBudget ({ frames := 7, cells := 1, slots := 6, locals := 104 } : Room) (pcX G [.ref h, .int (x0)] H0) qF (qE "java/lang/IllegalArgumentException") 1 6 noF := by
  refine enterX (cc := cX8_setBudget) (maxL := 3) (ret := some .int) (own := RX8) (lv := [(0, .ref h), (1, .int (x0))]) (by decide) rfl rfl rfl (Nat.le_of_ble_eq_true rfl) ?_
  intro pg ev s m below meth c hx hb hT hts hown hlocks hml hH hCX ls hl
  subst hH
  have hC := hCX.1
  have hLo : ∀ q, noF q → lo G q := fun _ h => h.elim
  have hS : va_S noF s.heap s.heap [] := va_S.rf
  generalize ([] : List Loc) = locs at hS ⊢
  refine lv_iload_n hx hb dX8_setBudget_0 rfl (lv_at hl 1 rfl) ?_
  refine lv_iconst (v := nI (4)) hx hb dX8_setBudget_1 (by decide) ?_
  refine lv_sipush (v := nI (300)) hx hb dX8_setBudget_2 (by decide) ?_
  exact tOut (vx_runS (As := [.int (x0), .int (nI (4)), .int (nI (300))]) (rest := []) ⟨hx, hb, hml, hown, hts⟩ (c_X8_requireWithin_x x0 (nI (4)) (nI (300)) (by show _ < (4 : Int) ∨ (300 : Int) < _; exact hbad) hfl) (va_cwS 3 hts gX8_setBudget_X8_requireWithin rfl rfl rfl (by decide +kernel) ⟨Nat.le_of_ble_eq_true rfl, Nat.le_of_ble_eq_true rfl⟩) (preSX hCX hS hLo) rfl rfl hl.1 rfl (lv_room (Nat.le_of_ble_eq_true rfl)) dX8_setBudget_5 ⟨Nat.le_of_ble_eq_true rfl, Nat.le_of_ble_eq_true rfl⟩) hS hT hlocks

set_option maxHeartbeats 4000000 in
set_option maxRecDepth 100000 in
theorem c_X8_setKeyDistance_x1 {l : Launch} {G : GT} {H0 : Heap} (h : Nat) (x0 : Int32) (hbad : x0.toInt < 1 ∨ 20 < x0.toInt) (hfl : l.stackTraces = false) : vx_Met l yX8_setKeyDistance wsX8_setKeyDistance ({ frames := 7, cells := 1, slots := 6, locals := 104 } : Room) (pcX G [.ref h, .int (x0)] H0) qF (qE "java/lang/IllegalArgumentException") 1 6 noF := by
  refine enterX (cc := cX8_setKeyDistance) (maxL := 3) (ret := some .int) (own := RX8) (lv := [(0, .ref h), (1, .int (x0))]) (by decide) rfl rfl rfl (Nat.le_of_ble_eq_true rfl) ?_
  intro pg ev s m below meth c hx hb hT hts hown hlocks hml hH hCX ls hl
  subst hH
  have hC := hCX.1
  have hLo : ∀ q, noF q → lo G q := fun _ h => h.elim
  have hS : va_S noF s.heap s.heap [] := va_S.rf
  generalize ([] : List Loc) = locs at hS ⊢
  refine lv_iload_n hx hb dX8_setKeyDistance_0 rfl (lv_at hl 1 rfl) ?_
  refine lv_iconst (v := nI (1)) hx hb dX8_setKeyDistance_1 (by decide) ?_
  refine lv_bipush (v := nI (20)) hx hb dX8_setKeyDistance_2 (by decide) ?_
  exact tOut (vx_runS (As := [.int (x0), .int (nI (1)), .int (nI (20))]) (rest := []) ⟨hx, hb, hml, hown, hts⟩ (c_X8_requireWithin_x x0 (nI (1)) (nI (20)) (by show _ < (1 : Int) ∨ (20 : Int) < _; exact hbad) hfl) (va_cwS 3 hts gX8_setKeyDistance_X8_requireWithin rfl rfl rfl (by decide +kernel) ⟨Nat.le_of_ble_eq_true rfl, Nat.le_of_ble_eq_true rfl⟩) (preSX hCX hS hLo) rfl rfl hl.1 rfl (lv_room (Nat.le_of_ble_eq_true rfl)) dX8_setKeyDistance_4 ⟨Nat.le_of_ble_eq_true rfl, Nat.le_of_ble_eq_true rfl⟩) hS hT hlocks

set_option maxHeartbeats 4000000 in
set_option maxRecDepth 100000 in
theorem c_X8_kindWith_x2 {l : Launch} {G : GT} {H0 : Heap} (h p : Nat) (x0 : Int32) (hp : p < 4) (hbad : x0.toInt < 1 ∨ 8 < x0.toInt) (hfl : l.stackTraces = false) : vx_Met l yX8_kindWith wsX8_kindWith ({ frames := 7, cells := 1, slots := 6, locals := 104 } : Room) (pcX G [.ref h, .int (nI (p)), .int (x0)] H0) qF (qE "java/lang/IllegalArgumentException") 1 6 noF := by
  refine enterX (cc := cX8_kindWith) (maxL := 3) (ret := some .int) (own := RX8) (lv := [(0, .ref h), (1, .int (nI (p))), (2, .int (x0))]) (by decide) rfl rfl rfl (Nat.le_of_ble_eq_true rfl) ?_
  intro pg ev s m below meth c hx hb hT hts hown hlocks hml hH hCX ls hl
  subst hH
  have hC := hCX.1
  have hLo : ∀ q, noF q → lo G q := fun _ h => h.elim
  have hS : va_S noF s.heap s.heap [] := va_S.rf
  generalize ([] : List Loc) = locs at hS ⊢
  refine lv_iload_n hx hb dX8_kindWith_0 rfl (lv_at hl 1 rfl) ?_
  refine kPv (va_runS (As := [.int (nI (p))]) (rest := []) ⟨hx, hb, hml, hown, hts⟩ (c_X8_requireBlock p (by first | assumption | omega)) (va_cwS 1 hts gX8_kindWith_X8_requireBlock rfl rfl rfl (by decide +kernel) ⟨Nat.le_of_ble_eq_true rfl, Nat.le_of_ble_eq_true rfl⟩) (preS hC hS hLo) rfl rfl hl.1 rfl (lv_room (Nat.le_of_ble_eq_true rfl)) dX8_kindWith_1 ⟨Nat.zero_le _, Nat.zero_le _⟩) hS (fun locs hS => ?_)
  refine lv_iload_n hx hb dX8_kindWith_4 rfl (lv_at hl 2 rfl) ?_
  refine lv_iconst (v := nI (1)) hx hb dX8_kindWith_5 (by decide) ?_
  refine lv_bipush (v := nI (8)) hx hb dX8_kindWith_6 (by decide) ?_
  exact tOut (vx_runS (As := [.int (x0), .int (nI (1)), .int (nI (8))]) (rest := []) ⟨hx, hb, hml, hown, hts⟩ (c_X8_requireWithin_x x0 (nI (1)) (nI (8)) (by show _ < (1 : Int) ∨ (8 : Int) < _; exact hbad) hfl) (va_cwS 3 hts gX8_kindWith_X8_requireWithin rfl rfl rfl (by decide +kernel) ⟨Nat.le_of_ble_eq_true rfl, Nat.le_of_ble_eq_true rfl⟩) (preSX hCX hS hLo) rfl rfl hl.1 rfl (lv_room (Nat.le_of_ble_eq_true rfl)) dX8_kindWith_8 ⟨Nat.le_of_ble_eq_true rfl, Nat.le_of_ble_eq_true rfl⟩) hS hT hlocks

set_option maxHeartbeats 4000000 in
set_option maxRecDepth 100000 in
theorem c_X8_bitsWith_x2 {l : Launch} {G : GT} {H0 : Heap} (h p : Nat) (x0 : Int32) (hp : p < 4) (hbad : x0.toInt < 1 ∨ 8 < x0.toInt) (hfl : l.stackTraces = false) : vx_Met l yX8_bitsWith wsX8_bitsWith ({ frames := 7, cells := 1, slots := 6, locals := 104 } : Room) (pcX G [.ref h, .int (nI (p)), .int (x0)] H0) qF (qE "java/lang/IllegalArgumentException") 1 6 noF := by
  refine enterX (cc := cX8_bitsWith) (maxL := 3) (ret := some .int) (own := RX8) (lv := [(0, .ref h), (1, .int (nI (p))), (2, .int (x0))]) (by decide) rfl rfl rfl (Nat.le_of_ble_eq_true rfl) ?_
  intro pg ev s m below meth c hx hb hT hts hown hlocks hml hH hCX ls hl
  subst hH
  have hC := hCX.1
  have hLo : ∀ q, noF q → lo G q := fun _ h => h.elim
  have hS : va_S noF s.heap s.heap [] := va_S.rf
  generalize ([] : List Loc) = locs at hS ⊢
  refine lv_iload_n hx hb dX8_bitsWith_0 rfl (lv_at hl 1 rfl) ?_
  refine kPv (va_runS (As := [.int (nI (p))]) (rest := []) ⟨hx, hb, hml, hown, hts⟩ (c_X8_requireBlock p (by first | assumption | omega)) (va_cwS 1 hts gX8_bitsWith_X8_requireBlock rfl rfl rfl (by decide +kernel) ⟨Nat.le_of_ble_eq_true rfl, Nat.le_of_ble_eq_true rfl⟩) (preS hC hS hLo) rfl rfl hl.1 rfl (lv_room (Nat.le_of_ble_eq_true rfl)) dX8_bitsWith_1 ⟨Nat.zero_le _, Nat.zero_le _⟩) hS (fun locs hS => ?_)
  refine lv_iload_n hx hb dX8_bitsWith_4 rfl (lv_at hl 2 rfl) ?_
  refine lv_iconst (v := nI (1)) hx hb dX8_bitsWith_5 (by decide) ?_
  refine lv_bipush (v := nI (8)) hx hb dX8_bitsWith_6 (by decide) ?_
  exact tOut (vx_runS (As := [.int (x0), .int (nI (1)), .int (nI (8))]) (rest := []) ⟨hx, hb, hml, hown, hts⟩ (c_X8_requireWithin_x x0 (nI (1)) (nI (8)) (by show _ < (1 : Int) ∨ (8 : Int) < _; exact hbad) hfl) (va_cwS 3 hts gX8_bitsWith_X8_requireWithin rfl rfl rfl (by decide +kernel) ⟨Nat.le_of_ble_eq_true rfl, Nat.le_of_ble_eq_true rfl⟩) (preSX hCX hS hLo) rfl rfl hl.1 rfl (lv_room (Nat.le_of_ble_eq_true rfl)) dX8_bitsWith_8 ⟨Nat.le_of_ble_eq_true rfl, Nat.le_of_ble_eq_true rfl⟩) hS hT hlocks

set_option maxHeartbeats 4000000 in
set_option maxRecDepth 100000 in
theorem c_X8_bitsByWriting_x2 {l : Launch} {G : GT} {H0 : Heap} (h p : Nat) (x0 : Int32) (hp : p < 4) (hbad : x0.toInt < 1 ∨ 8 < x0.toInt) (hfl : l.stackTraces = false) : vx_Met l yX8_bitsByWriting wsX8_bitsByWriting ({ frames := 7, cells := 1, slots := 6, locals := 104 } : Room) (pcX G [.ref h, .int (nI (p)), .int (x0)] H0) qF (qE "java/lang/IllegalArgumentException") 1 6 noF := by
  refine enterX (cc := cX8_bitsByWriting) (maxL := 3) (ret := some .int) (own := RX8) (lv := [(0, .ref h), (1, .int (nI (p))), (2, .int (x0))]) (by decide) rfl rfl rfl (Nat.le_of_ble_eq_true rfl) ?_
  intro pg ev s m below meth c hx hb hT hts hown hlocks hml hH hCX ls hl
  subst hH
  have hC := hCX.1
  have hLo : ∀ q, noF q → lo G q := fun _ h => h.elim
  have hS : va_S noF s.heap s.heap [] := va_S.rf
  generalize ([] : List Loc) = locs at hS ⊢
  refine lv_iload_n hx hb dX8_bitsByWriting_0 rfl (lv_at hl 1 rfl) ?_
  refine kPv (va_runS (As := [.int (nI (p))]) (rest := []) ⟨hx, hb, hml, hown, hts⟩ (c_X8_requireBlock p (by first | assumption | omega)) (va_cwS 1 hts gX8_bitsByWriting_X8_requireBlock rfl rfl rfl (by decide +kernel) ⟨Nat.le_of_ble_eq_true rfl, Nat.le_of_ble_eq_true rfl⟩) (preS hC hS hLo) rfl rfl hl.1 rfl (lv_room (Nat.le_of_ble_eq_true rfl)) dX8_bitsByWriting_1 ⟨Nat.zero_le _, Nat.zero_le _⟩) hS (fun locs hS => ?_)
  refine lv_iload_n hx hb dX8_bitsByWriting_4 rfl (lv_at hl 2 rfl) ?_
  refine lv_iconst (v := nI (1)) hx hb dX8_bitsByWriting_5 (by decide) ?_
  refine lv_bipush (v := nI (8)) hx hb dX8_bitsByWriting_6 (by decide) ?_
  exact tOut (vx_runS (As := [.int (x0), .int (nI (1)), .int (nI (8))]) (rest := []) ⟨hx, hb, hml, hown, hts⟩ (c_X8_requireWithin_x x0 (nI (1)) (nI (8)) (by show _ < (1 : Int) ∨ (8 : Int) < _; exact hbad) hfl) (va_cwS 3 hts gX8_bitsByWriting_X8_requireWithin rfl rfl rfl (by decide +kernel) ⟨Nat.le_of_ble_eq_true rfl, Nat.le_of_ble_eq_true rfl⟩) (preSX hCX hS hLo) rfl rfl hl.1 rfl (lv_room (Nat.le_of_ble_eq_true rfl)) dX8_bitsByWriting_8 ⟨Nat.le_of_ble_eq_true rfl, Nat.le_of_ble_eq_true rfl⟩) hS hT hlocks

set_option maxHeartbeats 4000000 in
set_option maxRecDepth 100000 in
theorem c_X8_send_x1 {l : Launch} {G : GT} {H0 : Heap} (a : Nat → Nat) (v : SVT) (x0 : Int32) (hkd : 1 ≤ v.2.2.2.2.2.2.1 ∧ v.2.2.2.2.2.2.1 ≤ 20) (hpi : v.2.2.2.2.2.2.2.1 ≤ 999) (hms : ¬ v.2.2.2.2.2.2.2.1 < 999) (hfl : l.stackTraces = false) (hP0 : PP G ([(a 0, .inr (7, [.ref (a 1), .ref (a 10), .ref (a 16), .ref (a 18), .ref (a 20), .ref (a 22), .ref (a 78), .ref (a 88)]))] ++ stW G (a 1) (a 2) (a 3) (a 4) (a 5) (a 6) (a 7) (a 8) (a 9) v) H0) : vx_Met l yX8_send wsX8_send ({ frames := 6, cells := 1, slots := 6, locals := 82 } : Room) (pcX G [.ref (a 0), .int (x0)] H0) qF (qE "java/lang/IllegalStateException") 1 6 noF := by
  refine enterX (cc := cX8_send) (maxL := 2) (ret := some .int) (own := RX8) (lv := [(0, .ref (a 0)), (1, .int (x0))]) (by decide) rfl rfl rfl (Nat.le_of_ble_eq_true rfl) ?_
  intro pg ev s m below meth c hx hb hT hts hown hlocks hml hH hCX ls hl
  subst hH
  have hC := hCX.1
  have hLo : ∀ q, noF q → lo G q := fun _ h => h.elim
  have hS : va_S noF s.heap s.heap [] := va_S.rf
  generalize ([] : List Loc) = locs at hS ⊢
  have hP := hP0
  refine lv_aload_n hx hb dX8_send_0 rfl (lv_at hl 0 rfl) ?_
  refine kPi (va_runV (As := []) (rest := []) ⟨hx, hb, hml, hown, hts⟩ (c_X8_maySend a v (by first | assumption | omega) (by first | assumption | omega) (hP.sub [0, 1, 2, 3, 4, 5, 6, 7, 8, 9] rfl)) (cwV 0 hts gX8_send_X8_maySend rfl rfl rfl (by decide +kernel) ⟨Nat.le_of_ble_eq_true rfl, Nat.le_of_ble_eq_true rfl⟩) (preV hC hS hLo hP (ci := 7) (q0 := 0) rfl rfl) rfl rfl hl.1 rfl (lv_room (Nat.le_of_ble_eq_true rfl)) dX8_send_1 ⟨Nat.zero_le _, Nat.zero_le _⟩) hS (fun locs hS => ?_)
  refine topE (v' := nI (0)) (bI_f hms) ?_
  refine lv_if_ne (tgt := 17) hx hb dX8_send_4 (by decide) (fun c_1 => ?_) (fun c_1 => ?_)
  · have f_2 : ¬ (0 : Int) = (0 : Int) := fun z => c_1 ((c_eq (nI_toInt (n := 0) (by omega)) rfl).mpr z)
    exfalso; omega
  · have f_3 : (0 : Int) = (0 : Int) := (c_eq (nI_toInt (n := 0) (by omega)) rfl).mp c_1
    exact tThrow (ws := wsX8_send) (cls := "java/lang/IllegalStateException") (text := "no more pictures can be sent") (ik := 91) (is := 93) (ic := 95) (si := 2) hfl hx hb hown hCX hS hl hml hT hlocks hts (by decide +kernel) (by decide +kernel) (fun w h => List.mem_cons_of_mem _ (List.mem_append_right _ h)) fitS ngS otS rfl dX8_send_7 dX8_send_10 dX8_send_11 dX8_send_13 dX8_send_16 ⟨by decide, by decide, by decide, by decide⟩

set_option maxHeartbeats 4000000 in
set_option maxRecDepth 100000 in
theorem c_X8_distance_x2 {l : Launch} {G : GT} {H0 : Heap} (h p : Nat) (x0 : Int32) (hp : p < 4) (hbad : x0.toInt < 0 ∨ 25 ≤ x0.toInt) (hfl : l.stackTraces = false) : vx_Met l yX8_distance wsX8_distance ({ frames := 6, cells := 1, slots := 6, locals := 82 } : Room) (pcX G [.ref h, .int (nI (p)), .int (x0)] H0) qF (qE "java/lang/IndexOutOfBoundsException") 1 6 noF := by
  refine enterX (cc := cX8_distance) (maxL := 3) (ret := some .int) (own := RX8) (lv := [(0, .ref h), (1, .int (nI (p))), (2, .int (x0))]) (by decide) rfl rfl rfl (Nat.le_of_ble_eq_true rfl) ?_
  intro pg ev s m below meth c hx hb hT hts hown hlocks hml hH hCX ls hl
  subst hH
  have hC := hCX.1
  have hLo : ∀ q, noF q → lo G q := fun _ h => h.elim
  have hS : va_S noF s.heap s.heap [] := va_S.rf
  generalize ([] : List Loc) = locs at hS ⊢
  refine lv_iload_n hx hb dX8_distance_0 rfl (lv_at hl 1 rfl) ?_
  refine kPv (va_runS (As := [.int (nI (p))]) (rest := []) ⟨hx, hb, hml, hown, hts⟩ (c_X8_requireBlock p (by first | assumption | omega)) (va_cwS 1 hts gX8_distance_X8_requireBlock rfl rfl rfl (by decide +kernel) ⟨Nat.le_of_ble_eq_true rfl, Nat.le_of_ble_eq_true rfl⟩) (preS hC hS hLo) rfl rfl hl.1 rfl (lv_room (Nat.le_of_ble_eq_true rfl)) dX8_distance_1 ⟨Nat.zero_le _, Nat.zero_le _⟩) hS (fun locs hS => ?_)
  refine lv_iload_n hx hb dX8_distance_4 rfl (lv_at hl 2 rfl) ?_
  refine lv_if_lt (tgt := 14) hx hb dX8_distance_5 (by decide) (fun c_1 => ?_) (fun c_1 => ?_)
  · have f_2 : Int32.toInt (x0) < (0 : Int) := (c_lt rfl rfl).mp c_1
    exact tThrow (ws := wsX8_distance) (cls := "java/lang/IndexOutOfBoundsException") (text := "no such move") (ik := 127) (is := 129) (ic := 131) (si := 4) hfl hx hb hown hCX hS hl hml hT hlocks hts (by decide +kernel) (by decide +kernel) (fun w h => List.mem_cons_of_mem _ (List.mem_append_right _ h)) fitI ngI otI rfl dX8_distance_14 dX8_distance_17 dX8_distance_18 dX8_distance_20 dX8_distance_23 ⟨by decide, by decide, by decide, by decide⟩
  · have f_3 : ¬ Int32.toInt (x0) < (0 : Int) := fun z => c_1 ((c_lt rfl rfl).mpr z)
    refine lv_iload_n hx hb dX8_distance_8 rfl (lv_at hl 2 rfl) ?_
    refine lv_bipush (v := nI (25)) hx hb dX8_distance_9 (by decide) ?_
    refine lv_icmp_lt (tgt := 24) hx hb dX8_distance_11 (by decide) (fun c_4 => ?_) (fun c_4 => ?_)
    · have f_5 : Int32.toInt (x0) < (25 : Int) := (c_lt rfl (nI_toInt (n := 25) (by omega))).mp c_4
      exfalso; omega
    · have f_6 : ¬ Int32.toInt (x0) < (25 : Int) := fun z => c_4 ((c_lt rfl (nI_toInt (n := 25) (by omega))).mpr z)
      exact tThrow (ws := wsX8_distance) (cls := "java/lang/IndexOutOfBoundsException") (text := "no such move") (ik := 127) (is := 129) (ic := 131) (si := 4) hfl hx hb hown hCX hS hl hml hT hlocks hts (by decide +kernel) (by decide +kernel) (fun w h => List.mem_cons_of_mem _ (List.mem_append_right _ h)) fitI ngI otI rfl dX8_distance_14 dX8_distance_17 dX8_distance_18 dX8_distance_20 dX8_distance_23 ⟨by decide, by decide, by decide, by decide⟩

set_option maxHeartbeats 4000000 in
set_option maxRecDepth 100000 in
theorem c_X8_undo_x1 {l : Launch} {G : GT} {H0 : Heap} (a : Nat → Nat) (nx ct : Nat) (hct : ct = 0) (hfl : l.stackTraces = false) (hP0 : PP G ([(a 0, .inr (7, [.ref (a 1), .ref (a 10), .ref (a 16), .ref (a 18), .ref (a 20), .ref (a 22), .ref (a 78), .ref (a 88)])), (a 22, .inr (2, [.ref (a 23), .int (nI (nx)), .int (nI (ct))]))]) H0) : vx_Met l yX8_undo wsX8_undo ({ frames := 6, cells := 1, slots := 6, locals := 82 } : Room) (pcX G [.ref (a 0)] H0) qF (qE "java/lang/IllegalStateException") 1 6 noF := by
  refine enterX (cc := cX8_undo) (maxL := 1) (ret := some .int) (own := RX8) (lv := [(0, .ref (a 0))]) (by decide) rfl rfl rfl (Nat.le_of_ble_eq_true rfl) ?_
  intro pg ev s m below meth c hx hb hT hts hown hlocks hml hH hCX ls hl
  subst hH
  have hC := hCX.1
  have hLo : ∀ q, noF q → lo G q := fun _ h => h.elim
  have hS : va_S noF s.heap s.heap [] := va_S.rf
  generalize ([] : List Loc) = locs at hS ⊢
  have hP := hP0
  refine lv_aload_n hx hb dX8_undo_0 rfl (lv_at hl 0 rfl) ?_
  refine va_get (D := gD G) (cl := vwCl) (tys := tyl G) (ci := 7) (v := .ref (a 22)) (C := RX8) (T := TX8) (N := 8) hx hb hts (by decide +kernel) hown hC.K hP 0 rfl rfl 5 (by decide) (hts (.fieldLink RX8 47 "MotionPost" "history" "LMotionPost$History;") (by decide +kernel)) (fun _ h9 => h9) rfl dX8_undo_1 ?_
  refine va_getN (D := gD G) (cl := vwCl) (tys := tyl G) (ci := 2) (v := .int (nI (ct))) (C := RX2) (T := TX2) (N := 3) (host := "MotionPost") (ref := "MotionPost$History") hx hb hts (by decide +kernel) hown hC.K hP 1 rfl rfl 2 (by decide) (hC.nestW 28 rfl rfl) (fun _ h9 => h9) rfl dX8_undo_4 ?_
  refine lv_if_ne (tgt := 20) hx hb dX8_undo_7 (by decide) (fun c_1 => ?_) (fun c_1 => ?_)
  · have f_2 : ¬ ((ct : Nat) : Int) = (0 : Int) := fun z => c_1 ((c_eq (nI_toInt (n := ct) (by omega)) rfl).mpr z)
    exfalso; omega
  · have f_3 : ((ct : Nat) : Int) = (0 : Int) := (c_eq (nI_toInt (n := ct) (by omega)) rfl).mp c_1
    exact tThrow (ws := wsX8_undo) (cls := "java/lang/IllegalStateException") (text := "no state is recorded") (ik := 91) (is := 224) (ic := 95) (si := 8) hfl hx hb hown hCX hS hl hml hT hlocks hts (by decide +kernel) (by decide +kernel) (fun w h => List.mem_cons_of_mem _ (List.mem_append_right _ h)) fitS ngS otS rfl dX8_undo_10 dX8_undo_13 dX8_undo_14 dX8_undo_16 dX8_undo_19 ⟨by decide, by decide, by decide, by decide⟩
