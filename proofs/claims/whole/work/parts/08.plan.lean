set_option maxHeartbeats 4000000 in
set_option maxRecDepth 100000 in
theorem c_X5_moveOf {l : Launch} {G : GT} {H0 : Heap} (ph p1 p2 p3 p4 p5 : Nat) (mo ki : Nat → Nat) (pr df : Nat → Int) (co : Int32) (bi : Nat) (b : Nat) (hb4 : b < 4) (hP0 : PP G ([(ph, .inr (4, [.ref p1, .ref p2, .ref p3, .ref p5, .int (co), .int (nI (bi))])), (p1, .inl (cI G, 4, .inl (fun z9 => nI (mo z9)))), (p2, .inl (cI G, 4, .inl (fun z9 => nI (ki z9)))), (p3, .inr (3, [.ref p4])), (p4, .inl (cI G, 64, .inl (fun z9 => iI (pr z9)))), (p5, .inl (cI G, 64, .inl (fun z9 => iI (df z9))))]) H0) : Met l yX5_moveOf wsX5_moveOf ({ frames := 0, cells := 0, slots := 0, locals := 0 } : Room) (pcG G [.ref ph, .int (nI (b))] H0) (qPi (nI (mo b)) H0) 0 0 noF := by
  refine enter (cc := cX5_moveOf) (maxL := 2) (ret := some .int) (own := RX5) (lv := [(0, .ref ph), (1, .int (nI (b)))]) (by decide) rfl rfl rfl (Nat.le_of_ble_eq_true rfl) ?_
  intro pg ev s m below meth c hx hb hr hts hown hlocks hml hnm hH hC ls hl
  subst hH
  have hLo : ∀ q, noF q → lo G q := fun _ h => h.elim
  have hS : va_S noF s.heap s.heap [] := va_S.rf
  generalize ([] : List Loc) = locs at hS ⊢
  have hP := hP0
  refine lv_iload_n hx hb dX5_moveOf_0 rfl (lv_at hl 1 rfl) ?_
  refine lv_if_lt (tgt := 9) hx hb dX5_moveOf_1 (by decide) (fun c_1 => ?_) (fun c_1 => ?_)
  · have f_2 : ((b : Nat) : Int) < (0 : Int) := (c_lt (nI_toInt (n := b) (by omega)) rfl).mp c_1
    exfalso; omega
  · have f_3 : ¬ ((b : Nat) : Int) < (0 : Int) := fun z => c_1 ((c_lt (nI_toInt (n := b) (by omega)) rfl).mpr z)
    refine lv_iload_n hx hb dX5_moveOf_4 rfl (lv_at hl 1 rfl) ?_
    refine lv_iconst (v := nI (4)) hx hb dX5_moveOf_5 (by decide) ?_
    refine lv_icmp_lt (tgt := 14) hx hb dX5_moveOf_6 (by decide) (fun c_4 => ?_) (fun c_4 => ?_)
    · have f_5 : ((b : Nat) : Int) < (4 : Int) := (c_lt (nI_toInt (n := b) (by omega)) (nI_toInt (n := 4) (by omega))).mp c_4
      refine lv_aload_n hx hb dX5_moveOf_14 rfl (lv_at hl 0 rfl) ?_
      refine va_get (D := gD G) (cl := vwCl) (tys := tyl G) (ci := 4) (v := .ref p1) (C := RX5) (T := TX5) (N := 6) hx hb hts (by decide +kernel) hown hC.K hP 0 rfl rfl 0 (by decide) (hts (.fieldLink RX5 9 "MotionPost$Plan" "moves" "[I") (by decide +kernel)) (fun _ h9 => h9) rfl dX5_moveOf_15 ?_
      refine lv_iload_n hx hb dX5_moveOf_18 rfl (lv_at hl 1 rfl) ?_
      refine gIald (j := b) hx hb hC.K hP 1 0 rfl rfl (rfl) (by omega) (by decide) dX5_moveOf_19 ?_
      exact xPi hx hb hr hlocks hS (by exact rfl) (by exact rfl) dX5_moveOf_20
    · have f_6 : ¬ ((b : Nat) : Int) < (4 : Int) := fun z => c_4 ((c_lt (nI_toInt (n := b) (by omega)) (nI_toInt (n := 4) (by omega))).mpr z)
      exfalso; omega

set_option maxHeartbeats 4000000 in
set_option maxRecDepth 100000 in
theorem c_X5_kindOf {l : Launch} {G : GT} {H0 : Heap} (ph p1 p2 p3 p4 p5 : Nat) (mo ki : Nat → Nat) (pr df : Nat → Int) (co : Int32) (bi : Nat) (b : Nat) (hb4 : b < 4) (hP0 : PP G ([(ph, .inr (4, [.ref p1, .ref p2, .ref p3, .ref p5, .int (co), .int (nI (bi))])), (p1, .inl (cI G, 4, .inl (fun z9 => nI (mo z9)))), (p2, .inl (cI G, 4, .inl (fun z9 => nI (ki z9)))), (p3, .inr (3, [.ref p4])), (p4, .inl (cI G, 64, .inl (fun z9 => iI (pr z9)))), (p5, .inl (cI G, 64, .inl (fun z9 => iI (df z9))))]) H0) : Met l yX5_kindOf wsX5_kindOf ({ frames := 0, cells := 0, slots := 0, locals := 0 } : Room) (pcG G [.ref ph, .int (nI (b))] H0) (qPi (nI (ki b)) H0) 0 0 noF := by
  refine enter (cc := cX5_kindOf) (maxL := 2) (ret := some .int) (own := RX5) (lv := [(0, .ref ph), (1, .int (nI (b)))]) (by decide) rfl rfl rfl (Nat.le_of_ble_eq_true rfl) ?_
  intro pg ev s m below meth c hx hb hr hts hown hlocks hml hnm hH hC ls hl
  subst hH
  have hLo : ∀ q, noF q → lo G q := fun _ h => h.elim
  have hS : va_S noF s.heap s.heap [] := va_S.rf
  generalize ([] : List Loc) = locs at hS ⊢
  have hP := hP0
  refine lv_iload_n hx hb dX5_kindOf_0 rfl (lv_at hl 1 rfl) ?_
  refine lv_if_lt (tgt := 9) hx hb dX5_kindOf_1 (by decide) (fun c_1 => ?_) (fun c_1 => ?_)
  · have f_2 : ((b : Nat) : Int) < (0 : Int) := (c_lt (nI_toInt (n := b) (by omega)) rfl).mp c_1
    exfalso; omega
  · have f_3 : ¬ ((b : Nat) : Int) < (0 : Int) := fun z => c_1 ((c_lt (nI_toInt (n := b) (by omega)) rfl).mpr z)
    refine lv_iload_n hx hb dX5_kindOf_4 rfl (lv_at hl 1 rfl) ?_
    refine lv_iconst (v := nI (4)) hx hb dX5_kindOf_5 (by decide) ?_
    refine lv_icmp_lt (tgt := 13) hx hb dX5_kindOf_6 (by decide) (fun c_4 => ?_) (fun c_4 => ?_)
    · have f_5 : ((b : Nat) : Int) < (4 : Int) := (c_lt (nI_toInt (n := b) (by omega)) (nI_toInt (n := 4) (by omega))).mp c_4
      refine lv_aload_n hx hb dX5_kindOf_13 rfl (lv_at hl 0 rfl) ?_
      refine va_get (D := gD G) (cl := vwCl) (tys := tyl G) (ci := 4) (v := .ref p2) (C := RX5) (T := TX5) (N := 6) hx hb hts (by decide +kernel) hown hC.K hP 0 rfl rfl 1 (by decide) (hts (.fieldLink RX5 15 "MotionPost$Plan" "kinds" "[I") (by decide +kernel)) (fun _ h9 => h9) rfl dX5_kindOf_14 ?_
      refine lv_iload_n hx hb dX5_kindOf_17 rfl (lv_at hl 1 rfl) ?_
      refine gIald (j := b) hx hb hC.K hP 2 0 rfl rfl (rfl) (by omega) (by decide) dX5_kindOf_18 ?_
      exact xPi hx hb hr hlocks hS (by exact rfl) (by exact rfl) dX5_kindOf_19
    · have f_6 : ¬ ((b : Nat) : Int) < (4 : Int) := fun z => c_4 ((c_lt (nI_toInt (n := b) (by omega)) (nI_toInt (n := 4) (by omega))).mpr z)
      exfalso; omega

set_option maxHeartbeats 4000000 in
set_option maxRecDepth 100000 in
theorem c_X5_levelAt {l : Launch} {G : GT} {H0 : Heap} (ph p1 p2 p3 p4 p5 : Nat) (mo ki : Nat → Nat) (pr df : Nat → Int) (co : Int32) (bi : Nat) (p q : Nat) (hp : p < 64) (hq : 1 ≤ q ∧ q ≤ 8) (hdf : D15 df) (hP0 : PP G ([(ph, .inr (4, [.ref p1, .ref p2, .ref p3, .ref p5, .int (co), .int (nI (bi))])), (p1, .inl (cI G, 4, .inl (fun z9 => nI (mo z9)))), (p2, .inl (cI G, 4, .inl (fun z9 => nI (ki z9)))), (p3, .inr (3, [.ref p4])), (p4, .inl (cI G, 64, .inl (fun z9 => iI (pr z9)))), (p5, .inl (cI G, 64, .inl (fun z9 => iI (df z9))))]) H0) : Met l yX5_levelAt wsX5_levelAt ({ frames := 0, cells := 0, slots := 0, locals := 0 } : Room) (pcG G [.ref ph, .int (nI (p)), .int (nI (q))] H0) (qPi (iI (lv (df p) q)) H0) 0 0 noF := by
  refine enter (cc := cX5_levelAt) (maxL := 3) (ret := some .int) (own := RX5) (lv := [(0, .ref ph), (1, .int (nI (p))), (2, .int (nI (q)))]) (by decide) rfl rfl rfl (Nat.le_of_ble_eq_true rfl) ?_
  intro pg ev s m below meth c hx hb hr hts hown hlocks hml hnm hH hC ls hl
  subst hH
  have hLo : ∀ q, noF q → lo G q := fun _ h => h.elim
  have hS : va_S noF s.heap s.heap [] := va_S.rf
  generalize ([] : List Loc) = locs at hS ⊢
  have hP := hP0
  refine lv_iload_n hx hb dX5_levelAt_0 rfl (lv_at hl 1 rfl) ?_
  refine lv_if_lt (tgt := 15) hx hb dX5_levelAt_1 (by decide) (fun c_1 => ?_) (fun c_1 => ?_)
  · have f_2 : ((p : Nat) : Int) < (0 : Int) := (c_lt (nI_toInt (n := p) (by omega)) rfl).mp c_1
    exfalso; omega
  · have f_3 : ¬ ((p : Nat) : Int) < (0 : Int) := fun z => c_1 ((c_lt (nI_toInt (n := p) (by omega)) rfl).mpr z)
    refine lv_iload_n hx hb dX5_levelAt_4 rfl (lv_at hl 1 rfl) ?_
    refine lv_bipush (v := nI (64)) hx hb dX5_levelAt_5 (by decide) ?_
    refine lv_icmp_ge (tgt := 15) hx hb dX5_levelAt_7 (by decide) (fun c_4 => ?_) (fun c_4 => ?_)
    · have f_5 : (64 : Int) ≤ ((p : Nat) : Int) := (c_le (nI_toInt (n := 64) (by omega)) (nI_toInt (n := p) (by omega))).mp c_4
      exfalso; omega
    · have f_6 : ¬ (64 : Int) ≤ ((p : Nat) : Int) := fun z => c_4 ((c_le (nI_toInt (n := 64) (by omega)) (nI_toInt (n := p) (by omega))).mpr z)
      refine lv_iload_n hx hb dX5_levelAt_10 rfl (lv_at hl 2 rfl) ?_
      refine lv_iconst (v := nI (1)) hx hb dX5_levelAt_11 (by decide) ?_
      refine lv_icmp_ge (tgt := 19) hx hb dX5_levelAt_12 (by decide) (fun c_7 => ?_) (fun c_7 => ?_)
      · have f_8 : (1 : Int) ≤ ((q : Nat) : Int) := (c_le (nI_toInt (n := 1) (by omega)) (nI_toInt (n := q) (by omega))).mp c_7
        refine lv_aload_n hx hb dX5_levelAt_19 rfl (lv_at hl 0 rfl) ?_
        refine va_get (D := gD G) (cl := vwCl) (tys := tyl G) (ci := 4) (v := .ref p5) (C := RX5) (T := TX5) (N := 6) hx hb hts (by decide +kernel) hown hC.K hP 0 rfl rfl 3 (by decide) (hts (.fieldLink RX5 25 "MotionPost$Plan" "differences" "[I") (by decide +kernel)) (fun _ h9 => h9) rfl dX5_levelAt_20 ?_
        refine lv_iload_n hx hb dX5_levelAt_23 rfl (lv_at hl 1 rfl) ?_
        refine gIald (j := p) hx hb hC.K hP 5 0 rfl rfl (rfl) (by omega) (by decide) dX5_levelAt_24 ?_
        refine lv_iload_n hx hb dX5_levelAt_25 rfl (lv_at hl 2 rfl) ?_
        have hdp := hdf p
        refine gDiv (z := iI (Int.tdiv (df p) ((q : Nat) : Int))) hx hb dX5_levelAt_26 (nI_ne0 (by omega) (by omega)) (z_div rfl (nI_i (q)) (by omega) (by omega) (by omega) (by omega)) ?_
        exact xPi hx hb hr hlocks hS (by exact rfl) (by exact rfl) dX5_levelAt_27
      · have f_9 : ¬ (1 : Int) ≤ ((q : Nat) : Int) := fun z => c_7 ((c_le (nI_toInt (n := 1) (by omega)) (nI_toInt (n := q) (by omega))).mpr z)
        exfalso; omega

set_option maxHeartbeats 4000000 in
set_option maxRecDepth 100000 in
theorem c_X5_additionAt {l : Launch} {G : GT} {H0 : Heap} (ph p1 p2 p3 p4 p5 : Nat) (mo ki : Nat → Nat) (pr df : Nat → Int) (co : Nat) (bi : Nat) (p : Nat) (hp : p < 64) (hq : 1 ≤ co ∧ co ≤ 8) (hdf : D15 df) (hP0 : PP G ([(ph, .inr (4, [.ref p1, .ref p2, .ref p3, .ref p5, .int (nI (co)), .int (nI (bi))])), (p1, .inl (cI G, 4, .inl (fun z9 => nI (mo z9)))), (p2, .inl (cI G, 4, .inl (fun z9 => nI (ki z9)))), (p3, .inr (3, [.ref p4])), (p4, .inl (cI G, 64, .inl (fun z9 => iI (pr z9)))), (p5, .inl (cI G, 64, .inl (fun z9 => iI (df z9))))]) H0) : Met l yX5_additionAt wsX5_additionAt ({ frames := 1, cells := 0, slots := 0, locals := 22 } : Room) (pcG G [.ref ph, .int (nI (p))] H0) (qPi (iI ((co : Int) * lv (df p) co)) H0) 0 0 noF := by
  refine enter (cc := cX5_additionAt) (maxL := 2) (ret := some .int) (own := RX5) (lv := [(0, .ref ph), (1, .int (nI (p)))]) (by decide) rfl rfl rfl (Nat.le_of_ble_eq_true rfl) ?_
  intro pg ev s m below meth c hx hb hr hts hown hlocks hml hnm hH hC ls hl
  subst hH
  have hLo : ∀ q, noF q → lo G q := fun _ h => h.elim
  have hS : va_S noF s.heap s.heap [] := va_S.rf
  generalize ([] : List Loc) = locs at hS ⊢
  have hP := hP0
  refine lv_aload_n hx hb dX5_additionAt_0 rfl (lv_at hl 0 rfl) ?_
  refine va_get (D := gD G) (cl := vwCl) (tys := tyl G) (ci := 4) (v := .int (nI (co))) (C := RX5) (T := TX5) (N := 6) hx hb hts (by decide +kernel) hown hC.K hP 0 rfl rfl 4 (by decide) (hts (.fieldLink RX5 28 "MotionPost$Plan" "coarseness" "I") (by decide +kernel)) (fun _ h9 => h9) rfl dX5_additionAt_1 ?_
  refine lv_aload_n hx hb dX5_additionAt_4 rfl (lv_at hl 0 rfl) ?_
  refine lv_iload_n hx hb dX5_additionAt_5 rfl (lv_at hl 1 rfl) ?_
  refine lv_aload_n hx hb dX5_additionAt_6 rfl (lv_at hl 0 rfl) ?_
  refine va_get (D := gD G) (cl := vwCl) (tys := tyl G) (ci := 4) (v := .int (nI (co))) (C := RX5) (T := TX5) (N := 6) hx hb hts (by decide +kernel) hown hC.K hP 0 rfl rfl 4 (by decide) (hts (.fieldLink RX5 28 "MotionPost$Plan" "coarseness" "I") (by decide +kernel)) (fun _ h9 => h9) rfl dX5_additionAt_7 ?_
  refine kPi (va_runV (As := [.int (nI (p)), .int (nI (co))]) (rest := [.int (nI (co))]) ⟨hx, hb, hml, hown, hts⟩ (c_X5_levelAt ph p1 p2 p3 p4 p5 mo ki pr df (nI (co)) bi p co (by first | assumption | omega) (by first | assumption | omega) (by first | assumption | omega) (hP.sub [0, 1, 2, 3, 4, 5] rfl)) (cwV 2 hts gX5_additionAt_X5_levelAt rfl rfl rfl (by decide +kernel) ⟨Nat.le_of_ble_eq_true rfl, Nat.le_of_ble_eq_true rfl⟩) (preV hC hS hLo hP (ci := 4) (q0 := 0) rfl rfl) rfl rfl hl.1 rfl (lv_room (Nat.le_of_ble_eq_true rfl)) dX5_additionAt_10 ⟨Nat.zero_le _, Nat.zero_le _⟩) hS (fun locs hS => ?_)
  refine gMul (z := iI ((co : Int) * lv (df p) co)) hx hb dX5_additionAt_13 (z_mul (nI_i _) rfl) ?_
  exact xPi hx hb hr hlocks hS (by exact rfl) (by exact rfl) dX5_additionAt_14

set_option maxHeartbeats 4000000 in
set_option maxRecDepth 100000 in
theorem c_X5_bitsOfLevel {l : Launch} {G : GT} {H0 : Heap} (z : Int) (hz : -15 ≤ z ∧ z ≤ 15) : Met l yX5_bitsOfLevel wsX5_bitsOfLevel ({ frames := 0, cells := 0, slots := 0, locals := 0 } : Room) (pcG G [.int (iI (z))] H0) (qPi (nI (lbits z)) H0) 0 0 noF := by
  refine enter (cc := cX5_bitsOfLevel) (maxL := 3) (ret := some .int) (own := RX5) (lv := [(0, .int (iI (z)))]) (by decide) rfl rfl rfl (Nat.le_of_ble_eq_true rfl) ?_
  intro pg ev s m below meth c hx hb hr hts hown hlocks hml hnm hH hC ls hl
  subst hH
  have hLo : ∀ q, noF q → lo G q := fun _ h => h.elim
  have hS : va_S noF s.heap s.heap [] := va_S.rf
  generalize ([] : List Loc) = locs at hS ⊢
  have J_9 : ∀ (locs : List Loc) (ls : Array Slot), va_S noF s.heap s.heap locs → lv_has ls 3 [(0, .int (iI (z)))] → W pg l ev ({ frames := 0, cells := 0, slots := 0, locals := 0 } : Room) s m (([.int (iI (z))] : List Value).toArray) below meth c s.heap locs 0 0 (MQ below (qPi (nI (lbits z)) s.heap) (([.int (iI (z))] : List Value).toArray) s 0 0 noF) (F0 m 9 ls [.int (nI (if z = 0 then 1 else 2))]) := by
    intro locs ls hS hl
    refine lv_istore_n (lv' := [(1, .int (nI (if z = 0 then 1 else 2))), (0, .int (iI (z)))]) hx hb dX5_bitsOfLevel_9 rfl hl (by decide) rfl (fun ls hl => ?_)
    have J_23 : ∀ (locs : List Loc) (ls : Array Slot), va_S noF s.heap s.heap locs → lv_has ls 3 [(0, .int (iI (z))), (1, .int (nI (if z = 0 then 1 else 2)))] → W pg l ev ({ frames := 0, cells := 0, slots := 0, locals := 0 } : Room) s m (([.int (iI (z))] : List Value).toArray) below meth c s.heap locs 0 0 (MQ below (qPi (nI (lbits z)) s.heap) (([.int (iI (z))] : List Value).toArray) s 0 0 noF) (F0 m 23 ls [.int (nI (z.natAbs + 1))]) := by
      intro locs ls hS hl
      refine lv_istore_n (lv' := [(2, .int (nI (z.natAbs + 1))), (0, .int (iI (z))), (1, .int (nI (if z = 0 then 1 else 2)))]) hx hb dX5_bitsOfLevel_23 rfl hl (by decide) rfl (fun ls hl => ?_)
      have L_24 : ∀ (n_24 : Nat) (sm n : Nat), n < n_24 → (sm + 2 * Nat.log2 n = lbits z) → (n ≤ 16) → (sm ≤ 100) → ∀ (locs : List Loc) (ls : Array Slot), va_S noF s.heap s.heap locs → lv_has ls 3 [(0, .int (iI (z))), (1, .int (nI (sm))), (2, .int (nI (n)))] → W pg l ev ({ frames := 0, cells := 0, slots := 0, locals := 0 } : Room) s m (([.int (iI (z))] : List Value).toArray) below meth c s.heap locs 0 0 (MQ below (qPi (nI (lbits z)) s.heap) (([.int (iI (z))] : List Value).toArray) s 0 0 noF) (F0 m 24 ls []) := by
        intro n_24
        induction n_24 with
        | zero => intro sm n hn; exact absurd hn (Nat.not_lt_zero _)
        | succ n_24 ih_24 =>
          intro sm n hn_24 hs hn hsm locs ls hS hl
          refine lv_iload_n hx hb dX5_bitsOfLevel_24 rfl (lv_at hl 2 rfl) ?_
          refine lv_iconst (v := nI (1)) hx hb dX5_bitsOfLevel_25 (by decide) ?_
          refine lv_icmp_le (tgt := 39) hx hb dX5_bitsOfLevel_26 (by decide) (fun c_1 => ?_) (fun c_1 => ?_)
          · have f_2 : ((n : Nat) : Int) ≤ (1 : Int) := (c_le (nI_toInt (n := n) (by omega)) (nI_toInt (n := 1) (by omega))).mp c_1
            have hl1 := log2_one (n := n) (by omega)
            refine lv_iload_n hx hb dX5_bitsOfLevel_39 rfl (lv_at hl 1 rfl) ?_
            exact xPi hx hb hr hlocks hS (by exact congrArg nI (by omega)) (by exact rfl) dX5_bitsOfLevel_40
          · have f_3 : ¬ ((n : Nat) : Int) ≤ (1 : Int) := fun z => c_1 ((c_le (nI_toInt (n := n) (by omega)) (nI_toInt (n := 1) (by omega))).mpr z)
            refine lv_iinc (v := nI (sm + 2)) (lv' := [(1, .int (nI (sm + 2))), (0, .int (iI (z))), (2, .int (nI (n)))]) hx hb dX5_bitsOfLevel_29 hl (k := 1) rfl (inc_p sm 2) (by decide) rfl (fun ls hl => ?_)
            refine lv_iload_n hx hb dX5_bitsOfLevel_32 rfl (lv_at hl 2 rfl) ?_
            refine lv_iconst (v := nI (2)) hx hb dX5_bitsOfLevel_33 (by decide) ?_
            refine gDiv (z := nI (n / 2)) hx hb dX5_bitsOfLevel_34 (nI_ne0 (by omega) (by omega)) (pk_div (by omega) (by omega) (by omega)) ?_
            refine lv_istore_n (lv' := [(2, .int (nI (n / 2))), (1, .int (nI (sm + 2))), (0, .int (iI (z)))]) hx hb dX5_bitsOfLevel_35 rfl hl (by decide) rfl (fun ls hl => ?_)
            refine lv_goto (tgt := 24) hx hb dX5_bitsOfLevel_36 (by decide) ?_
            exact ih_24 (sm + 2) (n / 2) (by omega) (by have := log2_half (n := n) (by omega); omega) (by omega) (by have := log2_16 hn; have := lbits_in hz; omega) locs ls hS (lv_sub hl [2, 1, 0] ((lvc rfl (lvc rfl (lvc rfl rfl)))))
      exact L_24 (_ + 1) (if z = 0 then 1 else 2) (z.natAbs + 1) (Nat.lt_succ_self _) (by unfold lbits; omega) (by omega) (by split <;> omega) locs ls hS (lv_sub hl [1, 2, 0] (lvc rfl (lvc rfl (lvc rfl rfl))))
    refine lv_iload_n hx hb dX5_bitsOfLevel_10 rfl (lv_at hl 1 rfl) ?_
    refine lv_if_ge (tgt := 20) hx hb dX5_bitsOfLevel_11 (by decide) (fun c_4 => ?_) (fun c_4 => ?_)
    · have f_5 : (0 : Int) ≤ (z) := (c_le rfl (iI_toInt (by omega) (by omega))).mp c_4
      refine lv_iconst (v := nI (1)) hx hb dX5_bitsOfLevel_20 (by decide) ?_
      refine lv_iload_n hx hb dX5_bitsOfLevel_21 rfl (lv_at hl 1 rfl) ?_
      refine gAdd (z := iI ((1 : Int) + (z))) hx hb dX5_bitsOfLevel_22 (z_add (nI_i (1)) rfl) ?_
      refine topE (v' := nI (z.natAbs + 1)) (by rw [nI_i]; congr 1; omega) ?_
      exact J_23 locs ls hS (lv_sub hl [1, 0] (rfl))
    · have f_6 : ¬ (0 : Int) ≤ (z) := fun z => c_4 ((c_le rfl (iI_toInt (by omega) (by omega))).mpr z)
      refine lv_iconst (v := nI (1)) hx hb dX5_bitsOfLevel_14 (by decide) ?_
      refine lv_iload_n hx hb dX5_bitsOfLevel_15 rfl (lv_at hl 1 rfl) ?_
      refine gSub (z := iI ((1 : Int) - (z))) hx hb dX5_bitsOfLevel_16 (z_sub (nI_i (1)) rfl) ?_
      refine lv_goto (tgt := 23) hx hb dX5_bitsOfLevel_17 (by decide) ?_
      refine topE (v' := nI (z.natAbs + 1)) (by rw [nI_i]; congr 1; omega) ?_
      exact J_23 locs ls hS (lv_sub hl [1, 0] (rfl))
  refine lv_iload_n hx hb dX5_bitsOfLevel_0 rfl (lv_at hl 0 rfl) ?_
  refine lv_if_ne (tgt := 8) hx hb dX5_bitsOfLevel_1 (by decide) (fun c_7 => ?_) (fun c_7 => ?_)
  · have f_8 : ¬ (z) = (0 : Int) := fun z => c_7 ((c_eq (iI_toInt (by omega) (by omega)) rfl).mpr z)
    refine lv_iconst (v := nI (2)) hx hb dX5_bitsOfLevel_8 (by decide) ?_
    refine topE (v' := nI (if z = 0 then 1 else 2)) (by first | exact congrArg nI (if_pos (by omega)).symm | exact congrArg nI (if_neg (by omega)).symm) ?_
    exact J_9 locs ls hS (lv_sub hl [0] (rfl))
  · have f_9 : (z) = (0 : Int) := (c_eq (iI_toInt (by omega) (by omega)) rfl).mp c_7
    refine lv_iconst (v := nI (1)) hx hb dX5_bitsOfLevel_4 (by decide) ?_
    refine lv_goto (tgt := 9) hx hb dX5_bitsOfLevel_5 (by decide) ?_
    refine topE (v' := nI (if z = 0 then 1 else 2)) (by first | exact congrArg nI (if_pos (by omega)).symm | exact congrArg nI (if_neg (by omega)).symm) ?_
    exact J_9 locs ls hS (lv_sub hl [0] (rfl))

set_option maxHeartbeats 4000000 in
set_option maxRecDepth 100000 in
theorem c_X5_foreseeKey {l : Launch} {G : GT} {H0 : Heap} (ph p1 p2 p3 p4 p5 : Nat) (mo ki : Nat → Nat) (pr df : Nat → Int) (co : Int32) (bi : Nat)  (hP0 : PP G ([(ph, .inr (4, [.ref p1, .ref p2, .ref p3, .ref p5, .int (co), .int (nI (bi))])), (p1, .inl (cI G, 4, .inl (fun z9 => nI (mo z9)))), (p2, .inl (cI G, 4, .inl (fun z9 => nI (ki z9)))), (p3, .inr (3, [.ref p4])), (p4, .inl (cI G, 64, .inl (fun z9 => iI (pr z9)))), (p5, .inl (cI G, 64, .inl (fun z9 => iI (df z9))))]) H0) (hB0 : va_D (lo G) ([(ph, .inr (4, [.ref p1, .ref p2, .ref p3, .ref p5, .int (co), .int (nI (bi))])), (p1, .inl (cI G, 4, .inl (fun z9 => nI (mo z9)))), (p2, .inl (cI G, 4, .inl (fun z9 => nI (ki z9)))), (p3, .inr (3, [.ref p4])), (p4, .inl (cI G, 64, .inl (fun z9 => iI (pr z9)))), (p5, .inl (cI G, 64, .inl (fun z9 => iI (df z9))))])) : Met l yX5_foreseeKey wsX5_foreseeKey ({ frames := 0, cells := 0, slots := 0, locals := 0 } : Room) (pcG G [.ref ph] H0) (qMv G (fun (u : Unit) => u = ()) (fun (u : Unit) => [(ph, .inr (4, [.ref p1, .ref p2, .ref p3, .ref p5, .int (iI (-1)), .int (nI (264))])), (p1, .inl (cI G, 4, .inl (fun z9 => nI (mo z9)))), (p2, .inl (cI G, 4, .inl (fun z9 => nI ((fzK ki 4) z9)))), (p3, .inr (3, [.ref p4])), (p4, .inl (cI G, 64, .inl (fun z9 => iI (pr z9)))), (p5, .inl (cI G, 64, .inl (fun z9 => iI (df z9))))]) ([(ph, .inr (4, [.ref p1, .ref p2, .ref p3, .ref p5, .int (co), .int (nI (bi))])), (p1, .inl (cI G, 4, .inl (fun z9 => nI (mo z9)))), (p2, .inl (cI G, 4, .inl (fun z9 => nI (ki z9)))), (p3, .inr (3, [.ref p4])), (p4, .inl (cI G, 64, .inl (fun z9 => iI (pr z9)))), (p5, .inl (cI G, 64, .inl (fun z9 => iI (df z9))))]) H0) 0 0 (va_A ([(ph, .inr (4, [.ref p1, .ref p2, .ref p3, .ref p5, .int (co), .int (nI (bi))])), (p1, .inl (cI G, 4, .inl (fun z9 => nI (mo z9)))), (p2, .inl (cI G, 4, .inl (fun z9 => nI (ki z9)))), (p3, .inr (3, [.ref p4])), (p4, .inl (cI G, 64, .inl (fun z9 => iI (pr z9)))), (p5, .inl (cI G, 64, .inl (fun z9 => iI (df z9))))]) H0.size) := by
  refine enter (cc := cX5_foreseeKey) (maxL := 2) (ret := none) (own := RX5) (lv := [(0, .ref ph)]) (by decide) rfl rfl rfl (Nat.le_of_ble_eq_true rfl) ?_
  intro pg ev s m below meth c hx hb hr hts hown hlocks hml hnm hH hC ls hl
  subst hH
  have hLo := va_freeB hB0 hC.2.2.2.1
  have hD := hB0.self (sz := s.heap.size)
  have hS : va_S (va_A ([(ph, .inr (4, [.ref p1, .ref p2, .ref p3, .ref p5, .int (co), .int (nI (bi))])), (p1, .inl (cI G, 4, .inl (fun z9 => nI (mo z9)))), (p2, .inl (cI G, 4, .inl (fun z9 => nI (ki z9)))), (p3, .inr (3, [.ref p4])), (p4, .inl (cI G, 64, .inl (fun z9 => iI (pr z9)))), (p5, .inl (cI G, 64, .inl (fun z9 => iI (df z9))))]) s.heap.size) s.heap s.heap [] := va_S.rf
  unfold qMv
  generalize hAe : va_A ([(ph, .inr (4, [.ref p1, .ref p2, .ref p3, .ref p5, .int (co), .int (nI (bi))])), (p1, .inl (cI G, 4, .inl (fun z9 => nI (mo z9)))), (p2, .inl (cI G, 4, .inl (fun z9 => nI (ki z9)))), (p3, .inr (3, [.ref p4])), (p4, .inl (cI G, 64, .inl (fun z9 => iI (pr z9)))), (p5, .inl (cI G, 64, .inl (fun z9 => iI (df z9))))]) s.heap.size = A at hD hLo hS ⊢
  have hA : ∀ q, s.heap.size ≤ q → A q := fun q h => by rw [← hAe]; exact Or.inr h
  generalize ([] : List Loc) = locs at hS ⊢
  have hP := hP0
  refine lv_iconst (v := nI (0)) hx hb dX5_foreseeKey_0 (by decide) ?_
  refine lv_istore_n (lv' := [(1, .int (nI (0))), (0, .ref ph)]) hx hb dX5_foreseeKey_1 rfl hl (by decide) rfl (fun ls hl => ?_)
  have L_2 : ∀ (n_2 : Nat) (i : Nat), 4 - i < n_2 → (i ≤ 4) → ∀ (H : Heap) (locs : List Loc) (ls : Array Slot), PP G ([(ph, .inr (4, [.ref p1, .ref p2, .ref p3, .ref p5, .int (co), .int (nI (bi))])), (p1, .inl (cI G, 4, .inl (fun z9 => nI (mo z9)))), (p2, .inl (cI G, 4, .inl (fun z9 => nI ((fzK ki i) z9)))), (p3, .inr (3, [.ref p4])), (p4, .inl (cI G, 64, .inl (fun z9 => iI (pr z9)))), (p5, .inl (cI G, 64, .inl (fun z9 => iI (df z9))))]) H → va_D A ([(ph, .inr (4, [.ref p1, .ref p2, .ref p3, .ref p5, .int (co), .int (nI (bi))])), (p1, .inl (cI G, 4, .inl (fun z9 => nI (mo z9)))), (p2, .inl (cI G, 4, .inl (fun z9 => nI ((fzK ki i) z9)))), (p3, .inr (3, [.ref p4])), (p4, .inl (cI G, 64, .inl (fun z9 => iI (pr z9)))), (p5, .inl (cI G, 64, .inl (fun z9 => iI (df z9))))]) → va_S A s.heap H locs → lv_has ls 2 [(0, .ref ph), (1, .int (nI (i)))] → W pg l ev ({ frames := 0, cells := 0, slots := 0, locals := 0 } : Room) s m (([.ref ph] : List Value).toArray) below meth c H locs 0 0 (MQ below (va_Qv (fun (u : Unit) => u = ()) (fun (u : Unit) t9 => PP G ([(ph, .inr (4, [.ref p1, .ref p2, .ref p3, .ref p5, .int (iI (-1)), .int (nI (264))])), (p1, .inl (cI G, 4, .inl (fun z9 => nI (mo z9)))), (p2, .inl (cI G, 4, .inl (fun z9 => nI ((fzK ki 4) z9)))), (p3, .inr (3, [.ref p4])), (p4, .inl (cI G, 64, .inl (fun z9 => iI (pr z9)))), (p5, .inl (cI G, 64, .inl (fun z9 => iI (df z9))))]) t9.heap) A) (([.ref ph] : List Value).toArray) s 0 0 A) (F0 m 2 ls []) := by
    intro n_2
    induction n_2 with
    | zero => intro i hn; exact absurd hn (Nat.not_lt_zero _)
    | succ n_2 ih_2 =>
      intro i hn_2 hi H locs ls hP hD hS hl
      refine lv_iload_n hx hb dX5_foreseeKey_2 rfl (lv_at hl 1 rfl) ?_
      refine lv_iconst (v := nI (4)) hx hb dX5_foreseeKey_3 (by decide) ?_
      refine lv_icmp_ge (tgt := 20) hx hb dX5_foreseeKey_4 (by decide) (fun c_1 => ?_) (fun c_1 => ?_)
      · have f_2 : (4 : Int) ≤ ((i : Nat) : Int) := (c_le (nI_toInt (n := 4) (by omega)) (nI_toInt (n := i) (by omega))).mp c_1
        have e_i : i = 4 := by omega
        replace e_i := e_i.symm
        subst e_i
        refine lv_aload_n hx hb dX5_foreseeKey_20 rfl (lv_at hl 0 rfl) ?_
        refine lv_iconst (v := iI (-1)) hx hb dX5_foreseeKey_21 (by decide) ?_
        refine va_put (D := gD G) (cl := vwCl) (tys := tyl G) (ci := 4) (v := .int (iI (-1))) (ty := .int) (C := RX5) (T := TX5) (N := 6) hx hb hts (by decide +kernel) tyX5 tyX5_ok nmX5 hown hC.K hP hD hS 0 rfl rfl 4 (by decide) (hts (.fieldLink RX5 28 "MotionPost$Plan" "coarseness" "I") (by decide +kernel)) (fun _ h9 => h9) rfl (by decide +kernel) (rfl) rfl (Nat.le_of_ble_eq_true rfl) dX5_foreseeKey_22 (fun H locs hP hD hS => ?_)
        have hP : PP G ([(ph, .inr (4, [.ref p1, .ref p2, .ref p3, .ref p5, .int (iI (-1)), .int (nI (bi))])), (p1, .inl (cI G, 4, .inl (fun z9 => nI (mo z9)))), (p2, .inl (cI G, 4, .inl (fun z9 => nI ((fzK ki 4) z9)))), (p3, .inr (3, [.ref p4])), (p4, .inl (cI G, 64, .inl (fun z9 => iI (pr z9)))), (p5, .inl (cI G, 64, .inl (fun z9 => iI (df z9))))]) H := hP
        have hD : va_D A ([(ph, .inr (4, [.ref p1, .ref p2, .ref p3, .ref p5, .int (iI (-1)), .int (nI (bi))])), (p1, .inl (cI G, 4, .inl (fun z9 => nI (mo z9)))), (p2, .inl (cI G, 4, .inl (fun z9 => nI ((fzK ki 4) z9)))), (p3, .inr (3, [.ref p4])), (p4, .inl (cI G, 64, .inl (fun z9 => iI (pr z9)))), (p5, .inl (cI G, 64, .inl (fun z9 => iI (df z9))))]) := hD
        refine lv_aload_n hx hb dX5_foreseeKey_25 rfl (lv_at hl 0 rfl) ?_
        refine lv_sipush (v := nI (264)) hx hb dX5_foreseeKey_26 (by decide) ?_
        refine va_put (D := gD G) (cl := vwCl) (tys := tyl G) (ci := 4) (v := .int (nI (264))) (ty := .int) (C := RX5) (T := TX5) (N := 6) hx hb hts (by decide +kernel) tyX5 tyX5_ok nmX5 hown hC.K hP hD hS 0 rfl rfl 5 (by decide) (hts (.fieldLink RX5 32 "MotionPost$Plan" "bits" "I") (by decide +kernel)) (fun _ h9 => h9) rfl (by decide +kernel) (rfl) rfl (Nat.le_of_ble_eq_true rfl) dX5_foreseeKey_29 (fun H locs hP hD hS => ?_)
        have hP : PP G ([(ph, .inr (4, [.ref p1, .ref p2, .ref p3, .ref p5, .int (iI (-1)), .int (nI (264))])), (p1, .inl (cI G, 4, .inl (fun z9 => nI (mo z9)))), (p2, .inl (cI G, 4, .inl (fun z9 => nI ((fzK ki 4) z9)))), (p3, .inr (3, [.ref p4])), (p4, .inl (cI G, 64, .inl (fun z9 => iI (pr z9)))), (p5, .inl (cI G, 64, .inl (fun z9 => iI (df z9))))]) H := hP
        have hD : va_D A ([(ph, .inr (4, [.ref p1, .ref p2, .ref p3, .ref p5, .int (iI (-1)), .int (nI (264))])), (p1, .inl (cI G, 4, .inl (fun z9 => nI (mo z9)))), (p2, .inl (cI G, 4, .inl (fun z9 => nI ((fzK ki 4) z9)))), (p3, .inr (3, [.ref p4])), (p4, .inl (cI G, 64, .inl (fun z9 => iI (pr z9)))), (p5, .inl (cI G, 64, .inl (fun z9 => iI (df z9))))]) := hD
        exact xMv (G := G) (post := (fun (u : Unit) => u = ())) (w1 := (fun (u : Unit) => [(ph, .inr (4, [.ref p1, .ref p2, .ref p3, .ref p5, .int (iI (-1)), .int (nI (264))])), (p1, .inl (cI G, 4, .inl (fun z9 => nI (mo z9)))), (p2, .inl (cI G, 4, .inl (fun z9 => nI ((fzK ki 4) z9)))), (p3, .inr (3, [.ref p4])), (p4, .inl (cI G, 64, .inl (fun z9 => iI (pr z9)))), (p5, .inl (cI G, 64, .inl (fun z9 => iI (df z9))))])) (()) hx hb hr hlocks hP hS (by exact rfl) dX5_foreseeKey_32
      · have f_3 : ¬ (4 : Int) ≤ ((i : Nat) : Int) := fun z => c_1 ((c_le (nI_toInt (n := 4) (by omega)) (nI_toInt (n := i) (by omega))).mpr z)
        refine lv_aload_n hx hb dX5_foreseeKey_7 rfl (lv_at hl 0 rfl) ?_
        refine va_get (D := gD G) (cl := vwCl) (tys := tyl G) (ci := 4) (v := .ref p2) (C := RX5) (T := TX5) (N := 6) hx hb hts (by decide +kernel) hown hC.K hP 0 rfl rfl 1 (by decide) (hts (.fieldLink RX5 15 "MotionPost$Plan" "kinds" "[I") (by decide +kernel)) (fun _ h9 => h9) rfl dX5_foreseeKey_8 ?_
        refine lv_iload_n hx hb dX5_foreseeKey_11 rfl (lv_at hl 1 rfl) ?_
        refine lv_iconst (v := nI (0)) hx hb dX5_foreseeKey_12 (by decide) ?_
        refine gIast (j := i) (f' := fun z9 => nI ((va_up (fzK ki i) i 0) z9)) hx hb hC.K hP hD hS 2 0 rfl rfl (rfl) (by omega) (by decide) (upn_N _ _ _) dX5_foreseeKey_13 (fun H locs hP hD hS => ?_)
        have hP : PP G ([(ph, .inr (4, [.ref p1, .ref p2, .ref p3, .ref p5, .int (co), .int (nI (bi))])), (p1, .inl (cI G, 4, .inl (fun z9 => nI (mo z9)))), (p2, .inl (cI G, 4, .inl (fun z9 => nI ((va_up (fzK ki i) i 0) z9)))), (p3, .inr (3, [.ref p4])), (p4, .inl (cI G, 64, .inl (fun z9 => iI (pr z9)))), (p5, .inl (cI G, 64, .inl (fun z9 => iI (df z9))))]) H := hP
        have hD : va_D A ([(ph, .inr (4, [.ref p1, .ref p2, .ref p3, .ref p5, .int (co), .int (nI (bi))])), (p1, .inl (cI G, 4, .inl (fun z9 => nI (mo z9)))), (p2, .inl (cI G, 4, .inl (fun z9 => nI ((va_up (fzK ki i) i 0) z9)))), (p3, .inr (3, [.ref p4])), (p4, .inl (cI G, 64, .inl (fun z9 => iI (pr z9)))), (p5, .inl (cI G, 64, .inl (fun z9 => iI (df z9))))]) := hD
        refine lv_iinc (v := nI (i + 1)) (lv' := [(1, .int (nI (i + 1))), (0, .ref ph)]) hx hb dX5_foreseeKey_14 hl (k := 1) rfl (inc_p i 1) (by decide) rfl (fun ls hl => ?_)
        refine lv_goto (tgt := 2) hx hb dX5_foreseeKey_17 (by decide) ?_
        exact ih_2 (i + 1) (by omega) (by omega) H locs ls hP hD hS (lv_sub hl [1, 0] ((lvc rfl (lvc rfl rfl))))
  exact L_2 (4 + 1) 0 (Nat.lt_succ_self _) (by omega) s.heap locs ls hP hD hS (lv_sub hl [1, 0] (lvc rfl (lvc rfl rfl)))

set_option maxHeartbeats 4000000 in
set_option maxRecDepth 100000 in
theorem c_X5_foreseeBlock {l : Launch} {G : GT} {H0 : Heap} (ph p1 p2 p3 p4 p5 : Nat) (mo ki : Nat → Nat) (pr df : Nat → Int) (co : Int32) (bi : Nat) (h a1 a2 a3 a4 a5 a6 a7 a8 : Nat) (d t r : Nat → Int) (k o : Nat → Nat) (bu kd pi lc sb : Nat) (b mv : Nat) (hb4 : b < 4) (hm : mv < 25) (hP0 : PP G ([(ph, .inr (4, [.ref p1, .ref p2, .ref p3, .ref p5, .int (co), .int (nI (bi))])), (p1, .inl (cI G, 4, .inl (fun z9 => nI (mo z9)))), (p2, .inl (cI G, 4, .inl (fun z9 => nI (ki z9)))), (p3, .inr (3, [.ref p4])), (p4, .inl (cI G, 64, .inl (fun z9 => iI (pr z9)))), (p5, .inl (cI G, 64, .inl (fun z9 => iI (df z9)))), (h, .inr (6, [.ref a1, .ref a3, .ref a5, .ref a7, .ref a8, .int (nI (bu)), .int (nI (kd)), .int (nI (pi)), .int (nI (lc)), .int (nI (sb))])), (a1, .inr (3, [.ref a2])), (a2, .inl (cI G, 64, .inl (fun z9 => iI (d z9)))), (a3, .inr (3, [.ref a4])), (a4, .inl (cI G, 64, .inl (fun z9 => iI (t z9)))), (a5, .inr (3, [.ref a6])), (a6, .inl (cI G, 64, .inl (fun z9 => iI (r z9)))), (a7, .inl (cI G, 4, .inl (fun z9 => nI (k z9)))), (a8, .inl (cI G, 4, .inl (fun z9 => nI (o z9))))]) H0) (hB0 : va_D (lo G) ([(ph, .inr (4, [.ref p1, .ref p2, .ref p3, .ref p5, .int (co), .int (nI (bi))])), (p1, .inl (cI G, 4, .inl (fun z9 => nI (mo z9)))), (p2, .inl (cI G, 4, .inl (fun z9 => nI (ki z9)))), (p3, .inr (3, [.ref p4])), (p4, .inl (cI G, 64, .inl (fun z9 => iI (pr z9)))), (p5, .inl (cI G, 64, .inl (fun z9 => iI (df z9)))), (h, .inr (6, [.ref a1, .ref a3, .ref a5, .ref a7, .ref a8, .int (nI (bu)), .int (nI (kd)), .int (nI (pi)), .int (nI (lc)), .int (nI (sb))])), (a1, .inr (3, [.ref a2])), (a2, .inl (cI G, 64, .inl (fun z9 => iI (d z9)))), (a3, .inr (3, [.ref a4])), (a4, .inl (cI G, 64, .inl (fun z9 => iI (t z9)))), (a5, .inr (3, [.ref a6])), (a6, .inl (cI G, 64, .inl (fun z9 => iI (r z9)))), (a7, .inl (cI G, 4, .inl (fun z9 => nI (k z9)))), (a8, .inl (cI G, 4, .inl (fun z9 => nI (o z9))))])) : Met l yX5_foreseeBlock wsX5_foreseeBlock ({ frames := 1, cells := 0, slots := 0, locals := 25 } : Room) (pcG G [.ref ph, .ref h, .int (nI (b)), .int (nI (mv))] H0) (qMv G (fun (u : Unit) => u = ()) (fun (u : Unit) => [(ph, .inr (4, [.ref p1, .ref p2, .ref p3, .ref p5, .int (co), .int (nI (bi))])), (p1, .inl (cI G, 4, .inl (fun z9 => nI ((va_up mo b mv) z9)))), (p2, .inl (cI G, 4, .inl (fun z9 => nI (ki z9)))), (p3, .inr (3, [.ref p4])), (p4, .inl (cI G, 64, .inl (fun z9 => iI ((fpS t b mv pr 16) z9)))), (p5, .inl (cI G, 64, .inl (fun z9 => iI ((fdS d t b mv df 16) z9)))), (h, .inr (6, [.ref a1, .ref a3, .ref a5, .ref a7, .ref a8, .int (nI (bu)), .int (nI (kd)), .int (nI (pi)), .int (nI (lc)), .int (nI (sb))])), (a1, .inr (3, [.ref a2])), (a2, .inl (cI G, 64, .inl (fun z9 => iI (d z9)))), (a3, .inr (3, [.ref a4])), (a4, .inl (cI G, 64, .inl (fun z9 => iI (t z9)))), (a5, .inr (3, [.ref a6])), (a6, .inl (cI G, 64, .inl (fun z9 => iI (r z9)))), (a7, .inl (cI G, 4, .inl (fun z9 => nI (k z9)))), (a8, .inl (cI G, 4, .inl (fun z9 => nI (o z9))))]) ([(ph, .inr (4, [.ref p1, .ref p2, .ref p3, .ref p5, .int (co), .int (nI (bi))])), (p1, .inl (cI G, 4, .inl (fun z9 => nI (mo z9)))), (p2, .inl (cI G, 4, .inl (fun z9 => nI (ki z9)))), (p3, .inr (3, [.ref p4])), (p4, .inl (cI G, 64, .inl (fun z9 => iI (pr z9)))), (p5, .inl (cI G, 64, .inl (fun z9 => iI (df z9)))), (h, .inr (6, [.ref a1, .ref a3, .ref a5, .ref a7, .ref a8, .int (nI (bu)), .int (nI (kd)), .int (nI (pi)), .int (nI (lc)), .int (nI (sb))])), (a1, .inr (3, [.ref a2])), (a2, .inl (cI G, 64, .inl (fun z9 => iI (d z9)))), (a3, .inr (3, [.ref a4])), (a4, .inl (cI G, 64, .inl (fun z9 => iI (t z9)))), (a5, .inr (3, [.ref a6])), (a6, .inl (cI G, 64, .inl (fun z9 => iI (r z9)))), (a7, .inl (cI G, 4, .inl (fun z9 => nI (k z9)))), (a8, .inl (cI G, 4, .inl (fun z9 => nI (o z9))))]) H0) 0 0 (va_A ([(ph, .inr (4, [.ref p1, .ref p2, .ref p3, .ref p5, .int (co), .int (nI (bi))])), (p1, .inl (cI G, 4, .inl (fun z9 => nI (mo z9)))), (p2, .inl (cI G, 4, .inl (fun z9 => nI (ki z9)))), (p3, .inr (3, [.ref p4])), (p4, .inl (cI G, 64, .inl (fun z9 => iI (pr z9)))), (p5, .inl (cI G, 64, .inl (fun z9 => iI (df z9)))), (h, .inr (6, [.ref a1, .ref a3, .ref a5, .ref a7, .ref a8, .int (nI (bu)), .int (nI (kd)), .int (nI (pi)), .int (nI (lc)), .int (nI (sb))])), (a1, .inr (3, [.ref a2])), (a2, .inl (cI G, 64, .inl (fun z9 => iI (d z9)))), (a3, .inr (3, [.ref a4])), (a4, .inl (cI G, 64, .inl (fun z9 => iI (t z9)))), (a5, .inr (3, [.ref a6])), (a6, .inl (cI G, 64, .inl (fun z9 => iI (r z9)))), (a7, .inl (cI G, 4, .inl (fun z9 => nI (k z9)))), (a8, .inl (cI G, 4, .inl (fun z9 => nI (o z9))))]) H0.size) := by
  refine enter (cc := cX5_foreseeBlock) (maxL := 7) (ret := none) (own := RX5) (lv := [(0, .ref ph), (1, .ref h), (2, .int (nI (b))), (3, .int (nI (mv)))]) (by decide) rfl rfl rfl (Nat.le_of_ble_eq_true rfl) ?_
  intro pg ev s m below meth c hx hb hr hts hown hlocks hml hnm hH hC ls hl
  subst hH
  have hLo := va_freeB hB0 hC.2.2.2.1
  have hD := hB0.self (sz := s.heap.size)
  have hS : va_S (va_A ([(ph, .inr (4, [.ref p1, .ref p2, .ref p3, .ref p5, .int (co), .int (nI (bi))])), (p1, .inl (cI G, 4, .inl (fun z9 => nI (mo z9)))), (p2, .inl (cI G, 4, .inl (fun z9 => nI (ki z9)))), (p3, .inr (3, [.ref p4])), (p4, .inl (cI G, 64, .inl (fun z9 => iI (pr z9)))), (p5, .inl (cI G, 64, .inl (fun z9 => iI (df z9)))), (h, .inr (6, [.ref a1, .ref a3, .ref a5, .ref a7, .ref a8, .int (nI (bu)), .int (nI (kd)), .int (nI (pi)), .int (nI (lc)), .int (nI (sb))])), (a1, .inr (3, [.ref a2])), (a2, .inl (cI G, 64, .inl (fun z9 => iI (d z9)))), (a3, .inr (3, [.ref a4])), (a4, .inl (cI G, 64, .inl (fun z9 => iI (t z9)))), (a5, .inr (3, [.ref a6])), (a6, .inl (cI G, 64, .inl (fun z9 => iI (r z9)))), (a7, .inl (cI G, 4, .inl (fun z9 => nI (k z9)))), (a8, .inl (cI G, 4, .inl (fun z9 => nI (o z9))))]) s.heap.size) s.heap s.heap [] := va_S.rf
  unfold qMv
  generalize hAe : va_A ([(ph, .inr (4, [.ref p1, .ref p2, .ref p3, .ref p5, .int (co), .int (nI (bi))])), (p1, .inl (cI G, 4, .inl (fun z9 => nI (mo z9)))), (p2, .inl (cI G, 4, .inl (fun z9 => nI (ki z9)))), (p3, .inr (3, [.ref p4])), (p4, .inl (cI G, 64, .inl (fun z9 => iI (pr z9)))), (p5, .inl (cI G, 64, .inl (fun z9 => iI (df z9)))), (h, .inr (6, [.ref a1, .ref a3, .ref a5, .ref a7, .ref a8, .int (nI (bu)), .int (nI (kd)), .int (nI (pi)), .int (nI (lc)), .int (nI (sb))])), (a1, .inr (3, [.ref a2])), (a2, .inl (cI G, 64, .inl (fun z9 => iI (d z9)))), (a3, .inr (3, [.ref a4])), (a4, .inl (cI G, 64, .inl (fun z9 => iI (t z9)))), (a5, .inr (3, [.ref a6])), (a6, .inl (cI G, 64, .inl (fun z9 => iI (r z9)))), (a7, .inl (cI G, 4, .inl (fun z9 => nI (k z9)))), (a8, .inl (cI G, 4, .inl (fun z9 => nI (o z9))))]) s.heap.size = A at hD hLo hS ⊢
  have hA : ∀ q, s.heap.size ≤ q → A q := fun q h => by rw [← hAe]; exact Or.inr h
  generalize ([] : List Loc) = locs at hS ⊢
  have hP := hP0
  refine lv_iload_n hx hb dX5_foreseeBlock_0 rfl (lv_at hl 2 rfl) ?_
  refine lv_if_lt (tgt := 9) hx hb dX5_foreseeBlock_1 (by decide) (fun c_1 => ?_) (fun c_1 => ?_)
  · have f_2 : ((b : Nat) : Int) < (0 : Int) := (c_lt (nI_toInt (n := b) (by omega)) rfl).mp c_1
    exfalso; omega
  · have f_3 : ¬ ((b : Nat) : Int) < (0 : Int) := fun z => c_1 ((c_lt (nI_toInt (n := b) (by omega)) rfl).mpr z)
    refine lv_iload_n hx hb dX5_foreseeBlock_4 rfl (lv_at hl 2 rfl) ?_
    refine lv_iconst (v := nI (4)) hx hb dX5_foreseeBlock_5 (by decide) ?_
    refine lv_icmp_lt (tgt := 10) hx hb dX5_foreseeBlock_6 (by decide) (fun c_4 => ?_) (fun c_4 => ?_)
    · have f_5 : ((b : Nat) : Int) < (4 : Int) := (c_lt (nI_toInt (n := b) (by omega)) (nI_toInt (n := 4) (by omega))).mp c_4
      refine lv_aload_n hx hb dX5_foreseeBlock_10 rfl (lv_at hl 0 rfl) ?_
      refine va_get (D := gD G) (cl := vwCl) (tys := tyl G) (ci := 4) (v := .ref p1) (C := RX5) (T := TX5) (N := 6) hx hb hts (by decide +kernel) hown hC.K hP 0 rfl rfl 0 (by decide) (hts (.fieldLink RX5 9 "MotionPost$Plan" "moves" "[I") (by decide +kernel)) (fun _ h9 => h9) rfl dX5_foreseeBlock_11 ?_
      refine lv_iload_n hx hb dX5_foreseeBlock_14 rfl (lv_at hl 2 rfl) ?_
      refine lv_iload_n hx hb dX5_foreseeBlock_15 rfl (lv_at hl 3 rfl) ?_
      refine gIast (j := b) (f' := fun z9 => nI ((va_up mo b mv) z9)) hx hb hC.K hP hD hS 1 0 rfl rfl (rfl) (by omega) (by decide) (upn_N _ _ _) dX5_foreseeBlock_16 (fun H locs hP hD hS => ?_)
      have hP : PP G ([(ph, .inr (4, [.ref p1, .ref p2, .ref p3, .ref p5, .int (co), .int (nI (bi))])), (p1, .inl (cI G, 4, .inl (fun z9 => nI ((va_up mo b mv) z9)))), (p2, .inl (cI G, 4, .inl (fun z9 => nI (ki z9)))), (p3, .inr (3, [.ref p4])), (p4, .inl (cI G, 64, .inl (fun z9 => iI (pr z9)))), (p5, .inl (cI G, 64, .inl (fun z9 => iI (df z9)))), (h, .inr (6, [.ref a1, .ref a3, .ref a5, .ref a7, .ref a8, .int (nI (bu)), .int (nI (kd)), .int (nI (pi)), .int (nI (lc)), .int (nI (sb))])), (a1, .inr (3, [.ref a2])), (a2, .inl (cI G, 64, .inl (fun z9 => iI (d z9)))), (a3, .inr (3, [.ref a4])), (a4, .inl (cI G, 64, .inl (fun z9 => iI (t z9)))), (a5, .inr (3, [.ref a6])), (a6, .inl (cI G, 64, .inl (fun z9 => iI (r z9)))), (a7, .inl (cI G, 4, .inl (fun z9 => nI (k z9)))), (a8, .inl (cI G, 4, .inl (fun z9 => nI (o z9))))]) H := hP
      have hD : va_D A ([(ph, .inr (4, [.ref p1, .ref p2, .ref p3, .ref p5, .int (co), .int (nI (bi))])), (p1, .inl (cI G, 4, .inl (fun z9 => nI ((va_up mo b mv) z9)))), (p2, .inl (cI G, 4, .inl (fun z9 => nI (ki z9)))), (p3, .inr (3, [.ref p4])), (p4, .inl (cI G, 64, .inl (fun z9 => iI (pr z9)))), (p5, .inl (cI G, 64, .inl (fun z9 => iI (df z9)))), (h, .inr (6, [.ref a1, .ref a3, .ref a5, .ref a7, .ref a8, .int (nI (bu)), .int (nI (kd)), .int (nI (pi)), .int (nI (lc)), .int (nI (sb))])), (a1, .inr (3, [.ref a2])), (a2, .inl (cI G, 64, .inl (fun z9 => iI (d z9)))), (a3, .inr (3, [.ref a4])), (a4, .inl (cI G, 64, .inl (fun z9 => iI (t z9)))), (a5, .inr (3, [.ref a6])), (a6, .inl (cI G, 64, .inl (fun z9 => iI (r z9)))), (a7, .inl (cI G, 4, .inl (fun z9 => nI (k z9)))), (a8, .inl (cI G, 4, .inl (fun z9 => nI (o z9))))]) := hD
      have hmd := mdn_in hm
      have hmr := mrt_in mv
      refine lv_iconst (v := nI (0)) hx hb dX5_foreseeBlock_17 (by decide) ?_
      refine lv_istore (lv' := [(4, .int (nI (0))), (0, .ref ph), (1, .ref h), (2, .int (nI (b))), (3, .int (nI (mv)))]) hx hb dX5_foreseeBlock_18 hl (by decide) rfl (fun ls hl => ?_)
      have L_20 : ∀ (n_20 : Nat) (i : Nat), 16 - i < n_20 → (i ≤ 16) → ∀ (H : Heap) (locs : List Loc) (ls : Array Slot), PP G ([(ph, .inr (4, [.ref p1, .ref p2, .ref p3, .ref p5, .int (co), .int (nI (bi))])), (p1, .inl (cI G, 4, .inl (fun z9 => nI ((va_up mo b mv) z9)))), (p2, .inl (cI G, 4, .inl (fun z9 => nI (ki z9)))), (p3, .inr (3, [.ref p4])), (p4, .inl (cI G, 64, .inl (fun z9 => iI ((fpS t b mv pr i) z9)))), (p5, .inl (cI G, 64, .inl (fun z9 => iI ((fdS d t b mv df i) z9)))), (h, .inr (6, [.ref a1, .ref a3, .ref a5, .ref a7, .ref a8, .int (nI (bu)), .int (nI (kd)), .int (nI (pi)), .int (nI (lc)), .int (nI (sb))])), (a1, .inr (3, [.ref a2])), (a2, .inl (cI G, 64, .inl (fun z9 => iI (d z9)))), (a3, .inr (3, [.ref a4])), (a4, .inl (cI G, 64, .inl (fun z9 => iI (t z9)))), (a5, .inr (3, [.ref a6])), (a6, .inl (cI G, 64, .inl (fun z9 => iI (r z9)))), (a7, .inl (cI G, 4, .inl (fun z9 => nI (k z9)))), (a8, .inl (cI G, 4, .inl (fun z9 => nI (o z9))))]) H → va_D A ([(ph, .inr (4, [.ref p1, .ref p2, .ref p3, .ref p5, .int (co), .int (nI (bi))])), (p1, .inl (cI G, 4, .inl (fun z9 => nI ((va_up mo b mv) z9)))), (p2, .inl (cI G, 4, .inl (fun z9 => nI (ki z9)))), (p3, .inr (3, [.ref p4])), (p4, .inl (cI G, 64, .inl (fun z9 => iI ((fpS t b mv pr i) z9)))), (p5, .inl (cI G, 64, .inl (fun z9 => iI ((fdS d t b mv df i) z9)))), (h, .inr (6, [.ref a1, .ref a3, .ref a5, .ref a7, .ref a8, .int (nI (bu)), .int (nI (kd)), .int (nI (pi)), .int (nI (lc)), .int (nI (sb))])), (a1, .inr (3, [.ref a2])), (a2, .inl (cI G, 64, .inl (fun z9 => iI (d z9)))), (a3, .inr (3, [.ref a4])), (a4, .inl (cI G, 64, .inl (fun z9 => iI (t z9)))), (a5, .inr (3, [.ref a6])), (a6, .inl (cI G, 64, .inl (fun z9 => iI (r z9)))), (a7, .inl (cI G, 4, .inl (fun z9 => nI (k z9)))), (a8, .inl (cI G, 4, .inl (fun z9 => nI (o z9))))]) → va_S A s.heap H locs → lv_has ls 7 [(0, .ref ph), (1, .ref h), (2, .int (nI (b))), (3, .int (nI (mv))), (4, .int (nI (i)))] → W pg l ev ({ frames := 1, cells := 0, slots := 0, locals := 25 } : Room) s m (([.ref ph, .ref h, .int (nI (b)), .int (nI (mv))] : List Value).toArray) below meth c H locs 0 0 (MQ below (va_Qv (fun (u : Unit) => u = ()) (fun (u : Unit) t9 => PP G ([(ph, .inr (4, [.ref p1, .ref p2, .ref p3, .ref p5, .int (co), .int (nI (bi))])), (p1, .inl (cI G, 4, .inl (fun z9 => nI ((va_up mo b mv) z9)))), (p2, .inl (cI G, 4, .inl (fun z9 => nI (ki z9)))), (p3, .inr (3, [.ref p4])), (p4, .inl (cI G, 64, .inl (fun z9 => iI ((fpS t b mv pr 16) z9)))), (p5, .inl (cI G, 64, .inl (fun z9 => iI ((fdS d t b mv df 16) z9)))), (h, .inr (6, [.ref a1, .ref a3, .ref a5, .ref a7, .ref a8, .int (nI (bu)), .int (nI (kd)), .int (nI (pi)), .int (nI (lc)), .int (nI (sb))])), (a1, .inr (3, [.ref a2])), (a2, .inl (cI G, 64, .inl (fun z9 => iI (d z9)))), (a3, .inr (3, [.ref a4])), (a4, .inl (cI G, 64, .inl (fun z9 => iI (t z9)))), (a5, .inr (3, [.ref a6])), (a6, .inl (cI G, 64, .inl (fun z9 => iI (r z9)))), (a7, .inl (cI G, 4, .inl (fun z9 => nI (k z9)))), (a8, .inl (cI G, 4, .inl (fun z9 => nI (o z9))))]) t9.heap) A) (([.ref ph, .ref h, .int (nI (b)), .int (nI (mv))] : List Value).toArray) s 0 0 A) (F0 m 20 ls []) := by
        intro n_20
        induction n_20 with
        | zero => intro i hn; exact absurd hn (Nat.not_lt_zero _)
        | succ n_20 ih_20 =>
          intro i hn_20 hi H locs ls hP hD hS hl
          refine lv_iload hx hb dX5_foreseeBlock_20 (lv_at hl 4 rfl) ?_
          refine lv_bipush (v := nI (16)) hx hb dX5_foreseeBlock_22 (by decide) ?_
          refine lv_icmp_ge (tgt := 91) hx hb dX5_foreseeBlock_24 (by decide) (fun c_6 => ?_) (fun c_6 => ?_)
          · have f_7 : (16 : Int) ≤ ((i : Nat) : Int) := (c_le (nI_toInt (n := 16) (by omega)) (nI_toInt (n := i) (by omega))).mp c_6
            have e_i : i = 16 := by omega
            replace e_i := e_i.symm
            subst e_i
            exact xMv (G := G) (post := (fun (u : Unit) => u = ())) (w1 := (fun (u : Unit) => [(ph, .inr (4, [.ref p1, .ref p2, .ref p3, .ref p5, .int (co), .int (nI (bi))])), (p1, .inl (cI G, 4, .inl (fun z9 => nI ((va_up mo b mv) z9)))), (p2, .inl (cI G, 4, .inl (fun z9 => nI (ki z9)))), (p3, .inr (3, [.ref p4])), (p4, .inl (cI G, 64, .inl (fun z9 => iI ((fpS t b mv pr 16) z9)))), (p5, .inl (cI G, 64, .inl (fun z9 => iI ((fdS d t b mv df 16) z9)))), (h, .inr (6, [.ref a1, .ref a3, .ref a5, .ref a7, .ref a8, .int (nI (bu)), .int (nI (kd)), .int (nI (pi)), .int (nI (lc)), .int (nI (sb))])), (a1, .inr (3, [.ref a2])), (a2, .inl (cI G, 64, .inl (fun z9 => iI (d z9)))), (a3, .inr (3, [.ref a4])), (a4, .inl (cI G, 64, .inl (fun z9 => iI (t z9)))), (a5, .inr (3, [.ref a6])), (a6, .inl (cI G, 64, .inl (fun z9 => iI (r z9)))), (a7, .inl (cI G, 4, .inl (fun z9 => nI (k z9)))), (a8, .inl (cI G, 4, .inl (fun z9 => nI (o z9))))])) (()) hx hb hr hlocks hP hS (by exact rfl) dX5_foreseeBlock_91
          · have f_8 : ¬ (16 : Int) ≤ ((i : Nat) : Int) := fun z => c_6 ((c_le (nI_toInt (n := 16) (by omega)) (nI_toInt (n := i) (by omega))).mpr z)
            refine lv_iload_n hx hb dX5_foreseeBlock_27 rfl (lv_at hl 2 rfl) ?_
            refine lv_iload hx hb dX5_foreseeBlock_28 (lv_at hl 4 rfl) ?_
            refine kPi (va_runSN (As := [.int (nI (b)), .int (nI (i))]) (rest := []) ⟨hx, hb, hml, hown, hts⟩ (c_X8_pixelIn b i (by first | assumption | omega) (by first | assumption | omega)) ⟨va_cnB 2 hts gX5_foreseeBlock_X8_pixelIn_n61 rfl rfl rfl (hC.nest 43 rfl) (hts (.initialized RX8) (by decide +kernel)) (by decide +kernel) ⟨Nat.le_of_ble_eq_true rfl, Nat.le_of_ble_eq_true rfl⟩, (hts (.static yX8_pixelIn) (by decide +kernel)), trivial⟩ (preS hC hS hLo) rfl rfl hl.1 rfl (lv_room (Nat.le_of_ble_eq_true rfl)) dX5_foreseeBlock_30 ⟨Nat.zero_le _, Nat.zero_le _⟩) hS (fun locs hS => ?_)
            refine lv_istore (lv' := [(5, .int (nI (px b i))), (0, .ref ph), (1, .ref h), (2, .int (nI (b))), (3, .int (nI (mv))), (4, .int (nI (i)))]) hx hb dX5_foreseeBlock_33 hl (by decide) rfl (fun ls hl => ?_)
            have hpx := px_lt hb4 (by omega : i < 16)
            refine lv_aload_n hx hb dX5_foreseeBlock_35 rfl (lv_at hl 2 rfl) ?_
            refine va_getN (D := gD G) (cl := vwCl) (tys := tyl G) (ci := 6) (v := .ref a3) (C := RX7) (T := TX7) (N := 10) (host := "MotionPost") (ref := "MotionPost$State") hx hb hts (by decide +kernel) hown hC.K hP 6 rfl rfl 1 (by decide) (hC.nestW 6 rfl rfl) (fun _ h9 => h9) rfl dX5_foreseeBlock_36 ?_
            refine lv_iload hx hb dX5_foreseeBlock_39 (lv_at hl 0 rfl) ?_
            refine lv_iload_n hx hb dX5_foreseeBlock_41 rfl (lv_at hl 4 rfl) ?_
            refine kPi (va_runSN (As := [.int (nI (mv))]) (rest := [.int (nI (px b i)), .ref a3]) ⟨hx, hb, hml, hown, hts⟩ (c_X8_downOf mv (by first | assumption | omega)) ⟨va_cnB 1 hts gX5_foreseeBlock_X8_downOf_n68 rfl rfl rfl (hC.nest 44 rfl) (hts (.initialized RX8) (by decide +kernel)) (by decide +kernel) ⟨Nat.le_of_ble_eq_true rfl, Nat.le_of_ble_eq_true rfl⟩, (hts (.static yX8_downOf) (by decide +kernel)), trivial⟩ (preS hC hS hLo) rfl rfl hl.1 rfl (lv_room (Nat.le_of_ble_eq_true rfl)) dX5_foreseeBlock_42 ⟨Nat.zero_le _, Nat.zero_le _⟩) hS (fun locs hS => ?_)
            refine lv_iload_n hx hb dX5_foreseeBlock_45 rfl (lv_at hl 4 rfl) ?_
            refine kPi (va_runSN (As := [.int (nI (mv))]) (rest := [.int (iI (mdn mv)), .int (nI (px b i)), .ref a3]) ⟨hx, hb, hml, hown, hts⟩ (c_X8_rightOf mv (by first | assumption | omega)) ⟨va_cnB 1 hts gX5_foreseeBlock_X8_rightOf_n72 rfl rfl rfl (hC.nest 45 rfl) (hts (.initialized RX8) (by decide +kernel)) (by decide +kernel) ⟨Nat.le_of_ble_eq_true rfl, Nat.le_of_ble_eq_true rfl⟩, (hts (.static yX8_rightOf) (by decide +kernel)), trivial⟩ (preS hC hS hLo) rfl rfl hl.1 rfl (lv_room (Nat.le_of_ble_eq_true rfl)) dX5_foreseeBlock_46 ⟨Nat.zero_le _, Nat.zero_le _⟩) hS (fun locs hS => ?_)
            refine kPi (va_runVN (As := [.int (nI (px b i)), .int (iI (mdn mv)), .int (iI (mrt mv))]) (rest := []) ⟨hx, hb, hml, hown, hts⟩ (c_X4_movedValueAt a3 a4 t (px b i) (mdn mv) (mrt mv) (by first | assumption | omega) (by first | assumption | omega) (by first | assumption | omega) (hP.sub [9, 10] rfl)) ⟨va_cnB 3 hts gX5_foreseeBlock_X4_movedValueAt_n75 rfl rfl rfl (hC.nest 46 rfl) (hts (.initialized RX4) (by decide +kernel)) (by decide +kernel) ⟨Nat.le_of_ble_eq_true rfl, Nat.le_of_ble_eq_true rfl⟩, (hts (.instanceMethod yX4_movedValueAt) (by decide +kernel)), (hts (.selects RX4 yX4_movedValueAt yX4_movedValueAt) (by decide +kernel))⟩ (preV hC hS hLo hP (ci := 3) (q0 := 9) rfl rfl) rfl rfl hl.1 rfl (lv_room (Nat.le_of_ble_eq_true rfl)) dX5_foreseeBlock_49 ⟨Nat.zero_le _, Nat.zero_le _⟩) hS (fun locs hS => ?_)
            refine lv_istore (lv' := [(6, .int (iI (t (fr (px b i) (mdn mv) (mrt mv))))), (5, .int (nI (px b i))), (0, .ref ph), (1, .ref h), (2, .int (nI (b))), (3, .int (nI (mv))), (4, .int (nI (i)))]) hx hb dX5_foreseeBlock_52 hl (by decide) rfl (fun ls hl => ?_)
            refine lv_aload_n hx hb dX5_foreseeBlock_54 rfl (lv_at hl 2 rfl) ?_
            refine va_get (D := gD G) (cl := vwCl) (tys := tyl G) (ci := 4) (v := .ref p3) (C := RX5) (T := TX5) (N := 6) hx hb hts (by decide +kernel) hown hC.K hP 0 rfl rfl 2 (by decide) (hts (.fieldLink RX5 21 "MotionPost$Plan" "predicted" "LMotionPost$Picture;") (by decide +kernel)) (fun _ h9 => h9) rfl dX5_foreseeBlock_55 ?_
            refine lv_iload hx hb dX5_foreseeBlock_58 (lv_at hl 1 rfl) ?_
            refine lv_iload hx hb dX5_foreseeBlock_60 (lv_at hl 0 rfl) ?_
            refine kMi (va_runVN (As := [.int (nI (px b i)), .int (iI (t (fr (px b i) (mdn mv) (mrt mv))))]) (rest := []) ⟨hx, hb, hml, hown, hts⟩ (c_X4_put p3 p4 (fpS t b mv pr i) (px b i) (t (fr (px b i) (mdn mv) (mrt mv))) (by first | assumption | omega) (hP.sub [3, 4] rfl) ((hD.sub [3, 4] (by decide) rfl).weaken (fun _ _ _ h => hLo _ h))) ⟨va_cnB 2 hts gX5_foreseeBlock_X4_put_n79 rfl rfl rfl (hC.nest 47 rfl) (hts (.initialized RX4) (by decide +kernel)) (by decide +kernel) ⟨Nat.le_of_ble_eq_true rfl, Nat.le_of_ble_eq_true rfl⟩, (hts (.instanceMethod yX4_put) (by decide +kernel)), (hts (.selects RX4 yX4_put yX4_put) (by decide +kernel))⟩ (preV hC hS hLo hP (ci := 3) (q0 := 3) rfl rfl) rfl rfl hl.1 rfl (lv_room (Nat.le_of_ble_eq_true rfl)) dX5_foreseeBlock_62 ⟨Nat.zero_le _, Nat.zero_le _⟩) hP hD hS hA [3, 4] (by decide) rfl (fun _ => rfl) (fun r_11 u_9 H locs q_10 hP hD hS => ?_)
            have hP : PP G ([(ph, .inr (4, [.ref p1, .ref p2, .ref p3, .ref p5, .int (co), .int (nI (bi))])), (p1, .inl (cI G, 4, .inl (fun z9 => nI ((va_up mo b mv) z9)))), (p2, .inl (cI G, 4, .inl (fun z9 => nI (ki z9)))), (p3, .inr (3, [.ref p4])), (p4, .inl (cI G, 64, .inl (fun z9 => iI ((va_up (fpS t b mv pr i) (px b i) (t (fr (px b i) (mdn mv) (mrt mv)))) z9)))), (p5, .inl (cI G, 64, .inl (fun z9 => iI ((fdS d t b mv df i) z9)))), (h, .inr (6, [.ref a1, .ref a3, .ref a5, .ref a7, .ref a8, .int (nI (bu)), .int (nI (kd)), .int (nI (pi)), .int (nI (lc)), .int (nI (sb))])), (a1, .inr (3, [.ref a2])), (a2, .inl (cI G, 64, .inl (fun z9 => iI (d z9)))), (a3, .inr (3, [.ref a4])), (a4, .inl (cI G, 64, .inl (fun z9 => iI (t z9)))), (a5, .inr (3, [.ref a6])), (a6, .inl (cI G, 64, .inl (fun z9 => iI (r z9)))), (a7, .inl (cI G, 4, .inl (fun z9 => nI (k z9)))), (a8, .inl (cI G, 4, .inl (fun z9 => nI (o z9))))]) H := hP
            have hD : va_D A ([(ph, .inr (4, [.ref p1, .ref p2, .ref p3, .ref p5, .int (co), .int (nI (bi))])), (p1, .inl (cI G, 4, .inl (fun z9 => nI ((va_up mo b mv) z9)))), (p2, .inl (cI G, 4, .inl (fun z9 => nI (ki z9)))), (p3, .inr (3, [.ref p4])), (p4, .inl (cI G, 64, .inl (fun z9 => iI ((va_up (fpS t b mv pr i) (px b i) (t (fr (px b i) (mdn mv) (mrt mv)))) z9)))), (p5, .inl (cI G, 64, .inl (fun z9 => iI ((fdS d t b mv df i) z9)))), (h, .inr (6, [.ref a1, .ref a3, .ref a5, .ref a7, .ref a8, .int (nI (bu)), .int (nI (kd)), .int (nI (pi)), .int (nI (lc)), .int (nI (sb))])), (a1, .inr (3, [.ref a2])), (a2, .inl (cI G, 64, .inl (fun z9 => iI (d z9)))), (a3, .inr (3, [.ref a4])), (a4, .inl (cI G, 64, .inl (fun z9 => iI (t z9)))), (a5, .inr (3, [.ref a6])), (a6, .inl (cI G, 64, .inl (fun z9 => iI (r z9)))), (a7, .inl (cI G, 4, .inl (fun z9 => nI (k z9)))), (a8, .inl (cI G, 4, .inl (fun z9 => nI (o z9))))]) := hD
            refine topE (v' := iI ((fpS t b mv pr i) (px b i))) (q_10) ?_
            refine lv_pop hx hb dX5_foreseeBlock_65 rfl ?_
            refine lv_aload_n hx hb dX5_foreseeBlock_66 rfl (lv_at hl 2 rfl) ?_
            refine va_get (D := gD G) (cl := vwCl) (tys := tyl G) (ci := 4) (v := .ref p5) (C := RX5) (T := TX5) (N := 6) hx hb hts (by decide +kernel) hown hC.K hP 0 rfl rfl 3 (by decide) (hts (.fieldLink RX5 25 "MotionPost$Plan" "differences" "[I") (by decide +kernel)) (fun _ h9 => h9) rfl dX5_foreseeBlock_67 ?_
            refine lv_iload hx hb dX5_foreseeBlock_70 (lv_at hl 1 rfl) ?_
            refine lv_aload_n hx hb dX5_foreseeBlock_72 rfl (lv_at hl 3 rfl) ?_
            refine va_getN (D := gD G) (cl := vwCl) (tys := tyl G) (ci := 6) (v := .ref a1) (C := RX7) (T := TX7) (N := 10) (host := "MotionPost") (ref := "MotionPost$State") hx hb hts (by decide +kernel) hown hC.K hP 6 rfl rfl 0 (by decide) (hC.nestW 4 rfl rfl) (fun _ h9 => h9) rfl dX5_foreseeBlock_73 ?_
            refine lv_iload hx hb dX5_foreseeBlock_76 (lv_at hl 1 rfl) ?_
            refine kPi (va_runVN (As := [.int (nI (px b i))]) (rest := [.int (nI (px b i)), .ref p5]) ⟨hx, hb, hml, hown, hts⟩ (c_X4_valueAt a1 a2 d (px b i) (by first | assumption | omega) (hP.sub [7, 8] rfl)) ⟨va_cnB 1 hts gX5_foreseeBlock_X4_valueAt_n85 rfl rfl rfl (hC.nest 48 rfl) (hts (.initialized RX4) (by decide +kernel)) (by decide +kernel) ⟨Nat.le_of_ble_eq_true rfl, Nat.le_of_ble_eq_true rfl⟩, (hts (.instanceMethod yX4_valueAt) (by decide +kernel)), (hts (.selects RX4 yX4_valueAt yX4_valueAt) (by decide +kernel))⟩ (preV hC hS hLo hP (ci := 3) (q0 := 7) rfl rfl) rfl rfl hl.1 rfl (lv_room (Nat.le_of_ble_eq_true rfl)) dX5_foreseeBlock_78 ⟨Nat.zero_le _, Nat.zero_le _⟩) hS (fun locs hS => ?_)
            refine lv_iload hx hb dX5_foreseeBlock_81 (lv_at hl 0 rfl) ?_
            refine gSub (z := iI ((d (px b i)) - (t (fr (px b i) (mdn mv) (mrt mv))))) hx hb dX5_foreseeBlock_83 (z_sub rfl rfl) ?_
            refine gIast (j := px b i) (f' := fun z9 => iI ((va_up (fdS d t b mv df i) (px b i) ((d (px b i)) - (t (fr (px b i) (mdn mv) (mrt mv))))) z9)) hx hb hC.K hP hD hS 5 0 rfl rfl (rfl) (by omega) (by decide) (upz_Z _ _ _) dX5_foreseeBlock_84 (fun H locs hP hD hS => ?_)
            have hP : PP G ([(ph, .inr (4, [.ref p1, .ref p2, .ref p3, .ref p5, .int (co), .int (nI (bi))])), (p1, .inl (cI G, 4, .inl (fun z9 => nI ((va_up mo b mv) z9)))), (p2, .inl (cI G, 4, .inl (fun z9 => nI (ki z9)))), (p3, .inr (3, [.ref p4])), (p4, .inl (cI G, 64, .inl (fun z9 => iI ((va_up (fpS t b mv pr i) (px b i) (t (fr (px b i) (mdn mv) (mrt mv)))) z9)))), (p5, .inl (cI G, 64, .inl (fun z9 => iI ((va_up (fdS d t b mv df i) (px b i) ((d (px b i)) - (t (fr (px b i) (mdn mv) (mrt mv))))) z9)))), (h, .inr (6, [.ref a1, .ref a3, .ref a5, .ref a7, .ref a8, .int (nI (bu)), .int (nI (kd)), .int (nI (pi)), .int (nI (lc)), .int (nI (sb))])), (a1, .inr (3, [.ref a2])), (a2, .inl (cI G, 64, .inl (fun z9 => iI (d z9)))), (a3, .inr (3, [.ref a4])), (a4, .inl (cI G, 64, .inl (fun z9 => iI (t z9)))), (a5, .inr (3, [.ref a6])), (a6, .inl (cI G, 64, .inl (fun z9 => iI (r z9)))), (a7, .inl (cI G, 4, .inl (fun z9 => nI (k z9)))), (a8, .inl (cI G, 4, .inl (fun z9 => nI (o z9))))]) H := hP
            have hD : va_D A ([(ph, .inr (4, [.ref p1, .ref p2, .ref p3, .ref p5, .int (co), .int (nI (bi))])), (p1, .inl (cI G, 4, .inl (fun z9 => nI ((va_up mo b mv) z9)))), (p2, .inl (cI G, 4, .inl (fun z9 => nI (ki z9)))), (p3, .inr (3, [.ref p4])), (p4, .inl (cI G, 64, .inl (fun z9 => iI ((va_up (fpS t b mv pr i) (px b i) (t (fr (px b i) (mdn mv) (mrt mv)))) z9)))), (p5, .inl (cI G, 64, .inl (fun z9 => iI ((va_up (fdS d t b mv df i) (px b i) ((d (px b i)) - (t (fr (px b i) (mdn mv) (mrt mv))))) z9)))), (h, .inr (6, [.ref a1, .ref a3, .ref a5, .ref a7, .ref a8, .int (nI (bu)), .int (nI (kd)), .int (nI (pi)), .int (nI (lc)), .int (nI (sb))])), (a1, .inr (3, [.ref a2])), (a2, .inl (cI G, 64, .inl (fun z9 => iI (d z9)))), (a3, .inr (3, [.ref a4])), (a4, .inl (cI G, 64, .inl (fun z9 => iI (t z9)))), (a5, .inr (3, [.ref a6])), (a6, .inl (cI G, 64, .inl (fun z9 => iI (r z9)))), (a7, .inl (cI G, 4, .inl (fun z9 => nI (k z9)))), (a8, .inl (cI G, 4, .inl (fun z9 => nI (o z9))))]) := hD
            refine lv_iinc (v := nI (i + 1)) (lv' := [(4, .int (nI (i + 1))), (6, .int (iI (t (fr (px b i) (mdn mv) (mrt mv))))), (5, .int (nI (px b i))), (0, .ref ph), (1, .ref h), (2, .int (nI (b))), (3, .int (nI (mv)))]) hx hb dX5_foreseeBlock_85 hl (k := 6) rfl (inc_p i 1) (by decide) rfl (fun ls hl => ?_)
            refine lv_goto (tgt := 20) hx hb dX5_foreseeBlock_88 (by decide) ?_
            exact ih_20 (i + 1) (by omega) (by omega) H locs ls hP hD hS (lv_sub hl [3, 4, 5, 6, 0] ((lvc rfl (lvc rfl (lvc rfl (lvc rfl (lvc rfl rfl)))))))
      exact L_20 (16 + 1) 0 (Nat.lt_succ_self _) (by omega) H locs ls hP hD hS (lv_sub hl [1, 2, 3, 4, 0] (lvc rfl (lvc rfl (lvc rfl (lvc rfl (lvc rfl rfl))))))
    · have f_12 : ¬ ((b : Nat) : Int) < (4 : Int) := fun z => c_4 ((c_lt (nI_toInt (n := b) (by omega)) (nI_toInt (n := 4) (by omega))).mpr z)
      exfalso; omega

set_option maxHeartbeats 4000000 in
set_option maxRecDepth 100000 in
theorem c_X5_weighBlock {l : Launch} {G : GT} {H0 : Heap} (ph p1 p2 p3 p4 p5 : Nat) (mo ki : Nat → Nat) (pr df : Nat → Int) (co : Int32) (bi : Nat) (b q : Nat) (hb4 : b < 4) (hq : 1 ≤ q ∧ q ≤ 8) (hdf : D15 df) (hmo : M25 mo) (hP0 : PP G ([(ph, .inr (4, [.ref p1, .ref p2, .ref p3, .ref p5, .int (co), .int (nI (bi))])), (p1, .inl (cI G, 4, .inl (fun z9 => nI (mo z9)))), (p2, .inl (cI G, 4, .inl (fun z9 => nI (ki z9)))), (p3, .inr (3, [.ref p4])), (p4, .inl (cI G, 64, .inl (fun z9 => iI (pr z9)))), (p5, .inl (cI G, 64, .inl (fun z9 => iI (df z9))))]) H0) (hB0 : va_D (lo G) ([(ph, .inr (4, [.ref p1, .ref p2, .ref p3, .ref p5, .int (co), .int (nI (bi))])), (p1, .inl (cI G, 4, .inl (fun z9 => nI (mo z9)))), (p2, .inl (cI G, 4, .inl (fun z9 => nI (ki z9)))), (p3, .inr (3, [.ref p4])), (p4, .inl (cI G, 64, .inl (fun z9 => iI (pr z9)))), (p5, .inl (cI G, 64, .inl (fun z9 => iI (df z9))))])) : Met l yX5_weighBlock wsX5_weighBlock ({ frames := 1, cells := 0, slots := 0, locals := 23 } : Room) (pcG G [.ref ph, .int (nI (b)), .int (nI (q))] H0) (qMi G (fun (r : Int32) (u : Unit) => r = nI (btW (mo b) (LB df b q 16))) (fun (u : Unit) => [(ph, .inr (4, [.ref p1, .ref p2, .ref p3, .ref p5, .int (co), .int (nI (bi))])), (p1, .inl (cI G, 4, .inl (fun z9 => nI (mo z9)))), (p2, .inl (cI G, 4, .inl (fun z9 => nI ((va_up ki b (kdW (mo b) (LB df b q 16))) z9)))), (p3, .inr (3, [.ref p4])), (p4, .inl (cI G, 64, .inl (fun z9 => iI (pr z9)))), (p5, .inl (cI G, 64, .inl (fun z9 => iI (df z9))))]) ([(ph, .inr (4, [.ref p1, .ref p2, .ref p3, .ref p5, .int (co), .int (nI (bi))])), (p1, .inl (cI G, 4, .inl (fun z9 => nI (mo z9)))), (p2, .inl (cI G, 4, .inl (fun z9 => nI (ki z9)))), (p3, .inr (3, [.ref p4])), (p4, .inl (cI G, 64, .inl (fun z9 => iI (pr z9)))), (p5, .inl (cI G, 64, .inl (fun z9 => iI (df z9))))]) H0) 0 0 (va_A ([(ph, .inr (4, [.ref p1, .ref p2, .ref p3, .ref p5, .int (co), .int (nI (bi))])), (p1, .inl (cI G, 4, .inl (fun z9 => nI (mo z9)))), (p2, .inl (cI G, 4, .inl (fun z9 => nI (ki z9)))), (p3, .inr (3, [.ref p4])), (p4, .inl (cI G, 64, .inl (fun z9 => iI (pr z9)))), (p5, .inl (cI G, 64, .inl (fun z9 => iI (df z9))))]) H0.size) := by
  refine enter (cc := cX5_weighBlock) (maxL := 5) (ret := some .int) (own := RX5) (lv := [(0, .ref ph), (1, .int (nI (b))), (2, .int (nI (q)))]) (by decide) rfl rfl rfl (Nat.le_of_ble_eq_true rfl) ?_
  intro pg ev s m below meth c hx hb hr hts hown hlocks hml hnm hH hC ls hl
  subst hH
  have hLo := va_freeB hB0 hC.2.2.2.1
  have hD := hB0.self (sz := s.heap.size)
  have hS : va_S (va_A ([(ph, .inr (4, [.ref p1, .ref p2, .ref p3, .ref p5, .int (co), .int (nI (bi))])), (p1, .inl (cI G, 4, .inl (fun z9 => nI (mo z9)))), (p2, .inl (cI G, 4, .inl (fun z9 => nI (ki z9)))), (p3, .inr (3, [.ref p4])), (p4, .inl (cI G, 64, .inl (fun z9 => iI (pr z9)))), (p5, .inl (cI G, 64, .inl (fun z9 => iI (df z9))))]) s.heap.size) s.heap s.heap [] := va_S.rf
  unfold qMi
  generalize hAe : va_A ([(ph, .inr (4, [.ref p1, .ref p2, .ref p3, .ref p5, .int (co), .int (nI (bi))])), (p1, .inl (cI G, 4, .inl (fun z9 => nI (mo z9)))), (p2, .inl (cI G, 4, .inl (fun z9 => nI (ki z9)))), (p3, .inr (3, [.ref p4])), (p4, .inl (cI G, 64, .inl (fun z9 => iI (pr z9)))), (p5, .inl (cI G, 64, .inl (fun z9 => iI (df z9))))]) s.heap.size = A at hD hLo hS ⊢
  have hA : ∀ q, s.heap.size ≤ q → A q := fun q h => by rw [← hAe]; exact Or.inr h
  generalize ([] : List Loc) = locs at hS ⊢
  have hP := hP0
  refine lv_iload_n hx hb dX5_weighBlock_0 rfl (lv_at hl 1 rfl) ?_
  refine lv_if_lt (tgt := 9) hx hb dX5_weighBlock_1 (by decide) (fun c_1 => ?_) (fun c_1 => ?_)
  · have f_2 : ((b : Nat) : Int) < (0 : Int) := (c_lt (nI_toInt (n := b) (by omega)) rfl).mp c_1
    exfalso; omega
  · have f_3 : ¬ ((b : Nat) : Int) < (0 : Int) := fun z => c_1 ((c_lt (nI_toInt (n := b) (by omega)) rfl).mpr z)
    refine lv_iload_n hx hb dX5_weighBlock_4 rfl (lv_at hl 1 rfl) ?_
    refine lv_iconst (v := nI (4)) hx hb dX5_weighBlock_5 (by decide) ?_
    refine lv_icmp_lt (tgt := 11) hx hb dX5_weighBlock_6 (by decide) (fun c_4 => ?_) (fun c_4 => ?_)
    · have f_5 : ((b : Nat) : Int) < (4 : Int) := (c_lt (nI_toInt (n := b) (by omega)) (nI_toInt (n := 4) (by omega))).mp c_4
      refine lv_iconst (v := nI (0)) hx hb dX5_weighBlock_11 (by decide) ?_
      refine lv_istore_n (lv' := [(3, .int (nI (0))), (0, .ref ph), (1, .int (nI (b))), (2, .int (nI (q)))]) hx hb dX5_weighBlock_12 rfl hl (by decide) rfl (fun ls hl => ?_)
      refine lv_iconst (v := nI (0)) hx hb dX5_weighBlock_13 (by decide) ?_
      refine lv_istore (lv' := [(4, .int (nI (0))), (3, .int (nI (0))), (0, .ref ph), (1, .int (nI (b))), (2, .int (nI (q)))]) hx hb dX5_weighBlock_14 hl (by decide) rfl (fun ls hl => ?_)
      have L_16 : ∀ (n_16 : Nat) (i : Nat), 16 - i < n_16 → (i ≤ 16) → ∀ (locs : List Loc) (ls : Array Slot), va_S A s.heap s.heap locs → lv_has ls 5 [(0, .ref ph), (1, .int (nI (b))), (2, .int (nI (q))), (3, .int (nI (LB df b q i))), (4, .int (nI (i)))] → W pg l ev ({ frames := 1, cells := 0, slots := 0, locals := 23 } : Room) s m (([.ref ph, .int (nI (b)), .int (nI (q))] : List Value).toArray) below meth c s.heap locs 0 0 (MQ below (va_Qi (fun (r : Int32) (u : Unit) => r = nI (btW (mo b) (LB df b q 16))) (fun (u : Unit) t9 => PP G ([(ph, .inr (4, [.ref p1, .ref p2, .ref p3, .ref p5, .int (co), .int (nI (bi))])), (p1, .inl (cI G, 4, .inl (fun z9 => nI (mo z9)))), (p2, .inl (cI G, 4, .inl (fun z9 => nI ((va_up ki b (kdW (mo b) (LB df b q 16))) z9)))), (p3, .inr (3, [.ref p4])), (p4, .inl (cI G, 64, .inl (fun z9 => iI (pr z9)))), (p5, .inl (cI G, 64, .inl (fun z9 => iI (df z9))))]) t9.heap) A) (([.ref ph, .int (nI (b)), .int (nI (q))] : List Value).toArray) s 0 0 A) (F0 m 16 ls []) := by
        intro n_16
        induction n_16 with
        | zero => intro i hn; exact absurd hn (Nat.not_lt_zero _)
        | succ n_16 ih_16 =>
          intro i hn_16 hi locs ls hS hl
          refine lv_iload hx hb dX5_weighBlock_16 (lv_at hl 4 rfl) ?_
          refine lv_bipush (v := nI (16)) hx hb dX5_weighBlock_18 (by decide) ?_
          refine lv_icmp_ge (tgt := 46) hx hb dX5_weighBlock_20 (by decide) (fun c_6 => ?_) (fun c_6 => ?_)
          · have f_7 : (16 : Int) ≤ ((i : Nat) : Int) := (c_le (nI_toInt (n := 16) (by omega)) (nI_toInt (n := i) (by omega))).mp c_6
            have e_i : i = 16 := by omega
            replace e_i := e_i.symm
            subst e_i
            have hmb := hmo b
            have hLB := LB_in hdf b hq.1 16
            refine lv_aload_n hx hb dX5_weighBlock_46 rfl (lv_at hl 0 rfl) ?_
            refine va_get (D := gD G) (cl := vwCl) (tys := tyl G) (ci := 4) (v := .ref p1) (C := RX5) (T := TX5) (N := 6) hx hb hts (by decide +kernel) hown hC.K hP 0 rfl rfl 0 (by decide) (hts (.fieldLink RX5 9 "MotionPost$Plan" "moves" "[I") (by decide +kernel)) (fun _ h9 => h9) rfl dX5_weighBlock_47 ?_
            refine lv_iload_n hx hb dX5_weighBlock_50 rfl (lv_at hl 1 rfl) ?_
            refine gIald (j := b) hx hb hC.K hP 1 0 rfl rfl (rfl) (by omega) (by decide) dX5_weighBlock_51 ?_
            refine lv_bipush (v := nI (12)) hx hb dX5_weighBlock_52 (by decide) ?_
            refine lv_icmp_ne (tgt := 72) hx hb dX5_weighBlock_54 (by decide) (fun c_8 => ?_) (fun c_8 => ?_)
            · have f_9 : ¬ ((mo b : Nat) : Int) = (12 : Int) := fun z => c_8 ((c_eq (nI_toInt (n := mo b) (by omega)) (nI_toInt (n := 12) (by omega))).mpr z)
              refine lv_bipush (v := nI (6)) hx hb dX5_weighBlock_72 (by decide) ?_
              refine lv_iload_n hx hb dX5_weighBlock_74 rfl (lv_at hl 3 rfl) ?_
              refine gAdd (z := nI (6 + (LB df b q 16))) hx hb dX5_weighBlock_75 (nI_add _ _) ?_
              refine lv_bipush (v := nI (66)) hx hb dX5_weighBlock_76 (by decide) ?_
              refine lv_icmp_gt (tgt := 93) hx hb dX5_weighBlock_78 (by decide) (fun c_10 => ?_) (fun c_10 => ?_)
              · have f_11 : (66 : Int) < ((6 + (LB df b q 16) : Nat) : Int) := (c_lt (nI_toInt (n := 66) (by omega)) (nI_toInt (n := 6 + (LB df b q 16)) (by omega))).mp c_10
                refine lv_aload_n hx hb dX5_weighBlock_93 rfl (lv_at hl 0 rfl) ?_
                refine va_get (D := gD G) (cl := vwCl) (tys := tyl G) (ci := 4) (v := .ref p2) (C := RX5) (T := TX5) (N := 6) hx hb hts (by decide +kernel) hown hC.K hP 0 rfl rfl 1 (by decide) (hts (.fieldLink RX5 15 "MotionPost$Plan" "kinds" "[I") (by decide +kernel)) (fun _ h9 => h9) rfl dX5_weighBlock_94 ?_
                refine lv_iload_n hx hb dX5_weighBlock_97 rfl (lv_at hl 1 rfl) ?_
                refine lv_iconst (v := nI (0)) hx hb dX5_weighBlock_98 (by decide) ?_
                refine gIast (j := b) (f' := fun z9 => nI ((va_up ki b 0) z9)) hx hb hC.K hP hD hS 2 0 rfl rfl (rfl) (by omega) (by decide) (upn_N _ _ _) dX5_weighBlock_99 (fun H locs hP hD hS => ?_)
                have hP : PP G ([(ph, .inr (4, [.ref p1, .ref p2, .ref p3, .ref p5, .int (co), .int (nI (bi))])), (p1, .inl (cI G, 4, .inl (fun z9 => nI (mo z9)))), (p2, .inl (cI G, 4, .inl (fun z9 => nI ((va_up ki b 0) z9)))), (p3, .inr (3, [.ref p4])), (p4, .inl (cI G, 64, .inl (fun z9 => iI (pr z9)))), (p5, .inl (cI G, 64, .inl (fun z9 => iI (df z9))))]) H := hP
                have hD : va_D A ([(ph, .inr (4, [.ref p1, .ref p2, .ref p3, .ref p5, .int (co), .int (nI (bi))])), (p1, .inl (cI G, 4, .inl (fun z9 => nI (mo z9)))), (p2, .inl (cI G, 4, .inl (fun z9 => nI ((va_up ki b 0) z9)))), (p3, .inr (3, [.ref p4])), (p4, .inl (cI G, 64, .inl (fun z9 => iI (pr z9)))), (p5, .inl (cI G, 64, .inl (fun z9 => iI (df z9))))]) := hD
                refine lv_bipush (v := nI (66)) hx hb dX5_weighBlock_100 (by decide) ?_
                have ek : kdW (mo b) (LB df b q 16) = 0 := by unfold kdW; (repeat' split) <;> omega
                rw [← ek] at hP
                exact xMi (G := G) (post := (fun (r : Int32) (u : Unit) => r = nI (btW (mo b) (LB df b q 16)))) (w1 := (fun (u : Unit) => [(ph, .inr (4, [.ref p1, .ref p2, .ref p3, .ref p5, .int (co), .int (nI (bi))])), (p1, .inl (cI G, 4, .inl (fun z9 => nI (mo z9)))), (p2, .inl (cI G, 4, .inl (fun z9 => nI ((va_up ki b (kdW (mo b) (LB df b q 16))) z9)))), (p3, .inr (3, [.ref p4])), (p4, .inl (cI G, 64, .inl (fun z9 => iI (pr z9)))), (p5, .inl (cI G, 64, .inl (fun z9 => iI (df z9))))])) (()) hx hb hr hlocks hP hS (by exact congrArg nI (by unfold btW; (repeat' split) <;> omega)) (by exact rfl) dX5_weighBlock_102
              · have f_12 : ¬ (66 : Int) < ((6 + (LB df b q 16) : Nat) : Int) := fun z => c_10 ((c_lt (nI_toInt (n := 66) (by omega)) (nI_toInt (n := 6 + (LB df b q 16)) (by omega))).mpr z)
                refine lv_aload_n hx hb dX5_weighBlock_81 rfl (lv_at hl 0 rfl) ?_
                refine va_get (D := gD G) (cl := vwCl) (tys := tyl G) (ci := 4) (v := .ref p2) (C := RX5) (T := TX5) (N := 6) hx hb hts (by decide +kernel) hown hC.K hP 0 rfl rfl 1 (by decide) (hts (.fieldLink RX5 15 "MotionPost$Plan" "kinds" "[I") (by decide +kernel)) (fun _ h9 => h9) rfl dX5_weighBlock_82 ?_
                refine lv_iload_n hx hb dX5_weighBlock_85 rfl (lv_at hl 1 rfl) ?_
                refine lv_iconst (v := nI (2)) hx hb dX5_weighBlock_86 (by decide) ?_
                refine gIast (j := b) (f' := fun z9 => nI ((va_up ki b 2) z9)) hx hb hC.K hP hD hS 2 0 rfl rfl (rfl) (by omega) (by decide) (upn_N _ _ _) dX5_weighBlock_87 (fun H locs hP hD hS => ?_)
                have hP : PP G ([(ph, .inr (4, [.ref p1, .ref p2, .ref p3, .ref p5, .int (co), .int (nI (bi))])), (p1, .inl (cI G, 4, .inl (fun z9 => nI (mo z9)))), (p2, .inl (cI G, 4, .inl (fun z9 => nI ((va_up ki b 2) z9)))), (p3, .inr (3, [.ref p4])), (p4, .inl (cI G, 64, .inl (fun z9 => iI (pr z9)))), (p5, .inl (cI G, 64, .inl (fun z9 => iI (df z9))))]) H := hP
                have hD : va_D A ([(ph, .inr (4, [.ref p1, .ref p2, .ref p3, .ref p5, .int (co), .int (nI (bi))])), (p1, .inl (cI G, 4, .inl (fun z9 => nI (mo z9)))), (p2, .inl (cI G, 4, .inl (fun z9 => nI ((va_up ki b 2) z9)))), (p3, .inr (3, [.ref p4])), (p4, .inl (cI G, 64, .inl (fun z9 => iI (pr z9)))), (p5, .inl (cI G, 64, .inl (fun z9 => iI (df z9))))]) := hD
                refine lv_bipush (v := nI (6)) hx hb dX5_weighBlock_88 (by decide) ?_
                refine lv_iload_n hx hb dX5_weighBlock_90 rfl (lv_at hl 3 rfl) ?_
                refine gAdd (z := nI (6 + (LB df b q 16))) hx hb dX5_weighBlock_91 (nI_add _ _) ?_
                have ek : kdW (mo b) (LB df b q 16) = 2 := by unfold kdW; (repeat' split) <;> omega
                rw [← ek] at hP
                exact xMi (G := G) (post := (fun (r : Int32) (u : Unit) => r = nI (btW (mo b) (LB df b q 16)))) (w1 := (fun (u : Unit) => [(ph, .inr (4, [.ref p1, .ref p2, .ref p3, .ref p5, .int (co), .int (nI (bi))])), (p1, .inl (cI G, 4, .inl (fun z9 => nI (mo z9)))), (p2, .inl (cI G, 4, .inl (fun z9 => nI ((va_up ki b (kdW (mo b) (LB df b q 16))) z9)))), (p3, .inr (3, [.ref p4])), (p4, .inl (cI G, 64, .inl (fun z9 => iI (pr z9)))), (p5, .inl (cI G, 64, .inl (fun z9 => iI (df z9))))])) (()) hx hb hr hlocks hP hS (by exact congrArg nI (by unfold btW; (repeat' split) <;> omega)) (by exact rfl) dX5_weighBlock_92
            · have f_13 : ((mo b : Nat) : Int) = (12 : Int) := (c_eq (nI_toInt (n := mo b) (by omega)) (nI_toInt (n := 12) (by omega))).mp c_8
              refine lv_iload_n hx hb dX5_weighBlock_57 rfl (lv_at hl 3 rfl) ?_
              refine lv_bipush (v := nI (16)) hx hb dX5_weighBlock_58 (by decide) ?_
              refine lv_icmp_ne (tgt := 72) hx hb dX5_weighBlock_60 (by decide) (fun c_14 => ?_) (fun c_14 => ?_)
              · have f_15 : ¬ ((LB df b q 16 : Nat) : Int) = (16 : Int) := fun z => c_14 ((c_eq (nI_toInt (n := LB df b q 16) (by omega)) (nI_toInt (n := 16) (by omega))).mpr z)
                refine lv_bipush (v := nI (6)) hx hb dX5_weighBlock_72 (by decide) ?_
                refine lv_iload_n hx hb dX5_weighBlock_74 rfl (lv_at hl 3 rfl) ?_
                refine gAdd (z := nI (6 + (LB df b q 16))) hx hb dX5_weighBlock_75 (nI_add _ _) ?_
                refine lv_bipush (v := nI (66)) hx hb dX5_weighBlock_76 (by decide) ?_
                refine lv_icmp_gt (tgt := 93) hx hb dX5_weighBlock_78 (by decide) (fun c_16 => ?_) (fun c_16 => ?_)
                · have f_17 : (66 : Int) < ((6 + (LB df b q 16) : Nat) : Int) := (c_lt (nI_toInt (n := 66) (by omega)) (nI_toInt (n := 6 + (LB df b q 16)) (by omega))).mp c_16
                  refine lv_aload_n hx hb dX5_weighBlock_93 rfl (lv_at hl 0 rfl) ?_
                  refine va_get (D := gD G) (cl := vwCl) (tys := tyl G) (ci := 4) (v := .ref p2) (C := RX5) (T := TX5) (N := 6) hx hb hts (by decide +kernel) hown hC.K hP 0 rfl rfl 1 (by decide) (hts (.fieldLink RX5 15 "MotionPost$Plan" "kinds" "[I") (by decide +kernel)) (fun _ h9 => h9) rfl dX5_weighBlock_94 ?_
                  refine lv_iload_n hx hb dX5_weighBlock_97 rfl (lv_at hl 1 rfl) ?_
                  refine lv_iconst (v := nI (0)) hx hb dX5_weighBlock_98 (by decide) ?_
                  refine gIast (j := b) (f' := fun z9 => nI ((va_up ki b 0) z9)) hx hb hC.K hP hD hS 2 0 rfl rfl (rfl) (by omega) (by decide) (upn_N _ _ _) dX5_weighBlock_99 (fun H locs hP hD hS => ?_)
                  have hP : PP G ([(ph, .inr (4, [.ref p1, .ref p2, .ref p3, .ref p5, .int (co), .int (nI (bi))])), (p1, .inl (cI G, 4, .inl (fun z9 => nI (mo z9)))), (p2, .inl (cI G, 4, .inl (fun z9 => nI ((va_up ki b 0) z9)))), (p3, .inr (3, [.ref p4])), (p4, .inl (cI G, 64, .inl (fun z9 => iI (pr z9)))), (p5, .inl (cI G, 64, .inl (fun z9 => iI (df z9))))]) H := hP
                  have hD : va_D A ([(ph, .inr (4, [.ref p1, .ref p2, .ref p3, .ref p5, .int (co), .int (nI (bi))])), (p1, .inl (cI G, 4, .inl (fun z9 => nI (mo z9)))), (p2, .inl (cI G, 4, .inl (fun z9 => nI ((va_up ki b 0) z9)))), (p3, .inr (3, [.ref p4])), (p4, .inl (cI G, 64, .inl (fun z9 => iI (pr z9)))), (p5, .inl (cI G, 64, .inl (fun z9 => iI (df z9))))]) := hD
                  refine lv_bipush (v := nI (66)) hx hb dX5_weighBlock_100 (by decide) ?_
                  have ek : kdW (mo b) (LB df b q 16) = 0 := by unfold kdW; (repeat' split) <;> omega
                  rw [← ek] at hP
                  exact xMi (G := G) (post := (fun (r : Int32) (u : Unit) => r = nI (btW (mo b) (LB df b q 16)))) (w1 := (fun (u : Unit) => [(ph, .inr (4, [.ref p1, .ref p2, .ref p3, .ref p5, .int (co), .int (nI (bi))])), (p1, .inl (cI G, 4, .inl (fun z9 => nI (mo z9)))), (p2, .inl (cI G, 4, .inl (fun z9 => nI ((va_up ki b (kdW (mo b) (LB df b q 16))) z9)))), (p3, .inr (3, [.ref p4])), (p4, .inl (cI G, 64, .inl (fun z9 => iI (pr z9)))), (p5, .inl (cI G, 64, .inl (fun z9 => iI (df z9))))])) (()) hx hb hr hlocks hP hS (by exact congrArg nI (by unfold btW; (repeat' split) <;> omega)) (by exact rfl) dX5_weighBlock_102
                · have f_18 : ¬ (66 : Int) < ((6 + (LB df b q 16) : Nat) : Int) := fun z => c_16 ((c_lt (nI_toInt (n := 66) (by omega)) (nI_toInt (n := 6 + (LB df b q 16)) (by omega))).mpr z)
                  refine lv_aload_n hx hb dX5_weighBlock_81 rfl (lv_at hl 0 rfl) ?_
                  refine va_get (D := gD G) (cl := vwCl) (tys := tyl G) (ci := 4) (v := .ref p2) (C := RX5) (T := TX5) (N := 6) hx hb hts (by decide +kernel) hown hC.K hP 0 rfl rfl 1 (by decide) (hts (.fieldLink RX5 15 "MotionPost$Plan" "kinds" "[I") (by decide +kernel)) (fun _ h9 => h9) rfl dX5_weighBlock_82 ?_
                  refine lv_iload_n hx hb dX5_weighBlock_85 rfl (lv_at hl 1 rfl) ?_
                  refine lv_iconst (v := nI (2)) hx hb dX5_weighBlock_86 (by decide) ?_
                  refine gIast (j := b) (f' := fun z9 => nI ((va_up ki b 2) z9)) hx hb hC.K hP hD hS 2 0 rfl rfl (rfl) (by omega) (by decide) (upn_N _ _ _) dX5_weighBlock_87 (fun H locs hP hD hS => ?_)
                  have hP : PP G ([(ph, .inr (4, [.ref p1, .ref p2, .ref p3, .ref p5, .int (co), .int (nI (bi))])), (p1, .inl (cI G, 4, .inl (fun z9 => nI (mo z9)))), (p2, .inl (cI G, 4, .inl (fun z9 => nI ((va_up ki b 2) z9)))), (p3, .inr (3, [.ref p4])), (p4, .inl (cI G, 64, .inl (fun z9 => iI (pr z9)))), (p5, .inl (cI G, 64, .inl (fun z9 => iI (df z9))))]) H := hP
                  have hD : va_D A ([(ph, .inr (4, [.ref p1, .ref p2, .ref p3, .ref p5, .int (co), .int (nI (bi))])), (p1, .inl (cI G, 4, .inl (fun z9 => nI (mo z9)))), (p2, .inl (cI G, 4, .inl (fun z9 => nI ((va_up ki b 2) z9)))), (p3, .inr (3, [.ref p4])), (p4, .inl (cI G, 64, .inl (fun z9 => iI (pr z9)))), (p5, .inl (cI G, 64, .inl (fun z9 => iI (df z9))))]) := hD
                  refine lv_bipush (v := nI (6)) hx hb dX5_weighBlock_88 (by decide) ?_
                  refine lv_iload_n hx hb dX5_weighBlock_90 rfl (lv_at hl 3 rfl) ?_
                  refine gAdd (z := nI (6 + (LB df b q 16))) hx hb dX5_weighBlock_91 (nI_add _ _) ?_
                  have ek : kdW (mo b) (LB df b q 16) = 2 := by unfold kdW; (repeat' split) <;> omega
                  rw [← ek] at hP
                  exact xMi (G := G) (post := (fun (r : Int32) (u : Unit) => r = nI (btW (mo b) (LB df b q 16)))) (w1 := (fun (u : Unit) => [(ph, .inr (4, [.ref p1, .ref p2, .ref p3, .ref p5, .int (co), .int (nI (bi))])), (p1, .inl (cI G, 4, .inl (fun z9 => nI (mo z9)))), (p2, .inl (cI G, 4, .inl (fun z9 => nI ((va_up ki b (kdW (mo b) (LB df b q 16))) z9)))), (p3, .inr (3, [.ref p4])), (p4, .inl (cI G, 64, .inl (fun z9 => iI (pr z9)))), (p5, .inl (cI G, 64, .inl (fun z9 => iI (df z9))))])) (()) hx hb hr hlocks hP hS (by exact congrArg nI (by unfold btW; (repeat' split) <;> omega)) (by exact rfl) dX5_weighBlock_92
              · have f_19 : ((LB df b q 16 : Nat) : Int) = (16 : Int) := (c_eq (nI_toInt (n := LB df b q 16) (by omega)) (nI_toInt (n := 16) (by omega))).mp c_14
                refine lv_aload_n hx hb dX5_weighBlock_63 rfl (lv_at hl 0 rfl) ?_
                refine va_get (D := gD G) (cl := vwCl) (tys := tyl G) (ci := 4) (v := .ref p2) (C := RX5) (T := TX5) (N := 6) hx hb hts (by decide +kernel) hown hC.K hP 0 rfl rfl 1 (by decide) (hts (.fieldLink RX5 15 "MotionPost$Plan" "kinds" "[I") (by decide +kernel)) (fun _ h9 => h9) rfl dX5_weighBlock_64 ?_
                refine lv_iload_n hx hb dX5_weighBlock_67 rfl (lv_at hl 1 rfl) ?_
                refine lv_iconst (v := nI (1)) hx hb dX5_weighBlock_68 (by decide) ?_
                refine gIast (j := b) (f' := fun z9 => nI ((va_up ki b 1) z9)) hx hb hC.K hP hD hS 2 0 rfl rfl (rfl) (by omega) (by decide) (upn_N _ _ _) dX5_weighBlock_69 (fun H locs hP hD hS => ?_)
                have hP : PP G ([(ph, .inr (4, [.ref p1, .ref p2, .ref p3, .ref p5, .int (co), .int (nI (bi))])), (p1, .inl (cI G, 4, .inl (fun z9 => nI (mo z9)))), (p2, .inl (cI G, 4, .inl (fun z9 => nI ((va_up ki b 1) z9)))), (p3, .inr (3, [.ref p4])), (p4, .inl (cI G, 64, .inl (fun z9 => iI (pr z9)))), (p5, .inl (cI G, 64, .inl (fun z9 => iI (df z9))))]) H := hP
                have hD : va_D A ([(ph, .inr (4, [.ref p1, .ref p2, .ref p3, .ref p5, .int (co), .int (nI (bi))])), (p1, .inl (cI G, 4, .inl (fun z9 => nI (mo z9)))), (p2, .inl (cI G, 4, .inl (fun z9 => nI ((va_up ki b 1) z9)))), (p3, .inr (3, [.ref p4])), (p4, .inl (cI G, 64, .inl (fun z9 => iI (pr z9)))), (p5, .inl (cI G, 64, .inl (fun z9 => iI (df z9))))]) := hD
                refine lv_iconst (v := nI (1)) hx hb dX5_weighBlock_70 (by decide) ?_
                have ek : kdW (mo b) (LB df b q 16) = 1 := by unfold kdW; (repeat' split) <;> omega
                rw [← ek] at hP
                exact xMi (G := G) (post := (fun (r : Int32) (u : Unit) => r = nI (btW (mo b) (LB df b q 16)))) (w1 := (fun (u : Unit) => [(ph, .inr (4, [.ref p1, .ref p2, .ref p3, .ref p5, .int (co), .int (nI (bi))])), (p1, .inl (cI G, 4, .inl (fun z9 => nI (mo z9)))), (p2, .inl (cI G, 4, .inl (fun z9 => nI ((va_up ki b (kdW (mo b) (LB df b q 16))) z9)))), (p3, .inr (3, [.ref p4])), (p4, .inl (cI G, 64, .inl (fun z9 => iI (pr z9)))), (p5, .inl (cI G, 64, .inl (fun z9 => iI (df z9))))])) (()) hx hb hr hlocks hP hS (by exact congrArg nI (by unfold btW; (repeat' split) <;> omega)) (by exact rfl) dX5_weighBlock_71
          · have f_20 : ¬ (16 : Int) ≤ ((i : Nat) : Int) := fun z => c_6 ((c_le (nI_toInt (n := 16) (by omega)) (nI_toInt (n := i) (by omega))).mpr z)
            refine lv_iload_n hx hb dX5_weighBlock_23 rfl (lv_at hl 3 rfl) ?_
            refine lv_aload_n hx hb dX5_weighBlock_24 rfl (lv_at hl 0 rfl) ?_
            refine lv_iload_n hx hb dX5_weighBlock_25 rfl (lv_at hl 1 rfl) ?_
            refine lv_iload hx hb dX5_weighBlock_26 (lv_at hl 4 rfl) ?_
            refine kPi (va_runSN (As := [.int (nI (b)), .int (nI (i))]) (rest := [.ref ph, .int (nI (LB df b q i))]) ⟨hx, hb, hml, hown, hts⟩ (c_X8_pixelIn b i (by first | assumption | omega) (by first | assumption | omega)) ⟨va_cnB 2 hts gX5_weighBlock_X8_pixelIn_n61 rfl rfl rfl (hC.nest 43 rfl) (hts (.initialized RX8) (by decide +kernel)) (by decide +kernel) ⟨Nat.le_of_ble_eq_true rfl, Nat.le_of_ble_eq_true rfl⟩, (hts (.static yX8_pixelIn) (by decide +kernel)), trivial⟩ (preS hC hS hLo) rfl rfl hl.1 rfl (lv_room (Nat.le_of_ble_eq_true rfl)) dX5_weighBlock_28 ⟨Nat.zero_le _, Nat.zero_le _⟩) hS (fun locs hS => ?_)
            have hpx := px_lt hb4 (by omega : i < 16)
            have hlv := lv_in (hdf (px b i)) hq.1
            refine lv_iload_n hx hb dX5_weighBlock_31 rfl (lv_at hl 2 rfl) ?_
            refine kPi (va_runV (As := [.int (nI (px b i)), .int (nI (q))]) (rest := [.int (nI (LB df b q i))]) ⟨hx, hb, hml, hown, hts⟩ (c_X5_levelAt ph p1 p2 p3 p4 p5 mo ki pr df co bi (px b i) q (by first | assumption | omega) (by first | assumption | omega) (by first | assumption | omega) (hP.sub [0, 1, 2, 3, 4, 5] rfl)) (cwV 2 hts gX5_weighBlock_X5_levelAt rfl rfl rfl (by decide +kernel) ⟨Nat.le_of_ble_eq_true rfl, Nat.le_of_ble_eq_true rfl⟩) (preV hC hS hLo hP (ci := 4) (q0 := 0) rfl rfl) rfl rfl hl.1 rfl (lv_room (Nat.le_of_ble_eq_true rfl)) dX5_weighBlock_32 ⟨Nat.zero_le _, Nat.zero_le _⟩) hS (fun locs hS => ?_)
            refine kPi (va_runS (As := [.int (iI (lv (df (px b i)) q))]) (rest := [.int (nI (LB df b q i))]) ⟨hx, hb, hml, hown, hts⟩ (c_X5_bitsOfLevel (lv (df (px b i)) q) (by first | assumption | omega)) (va_cwS 1 hts gX5_weighBlock_X5_bitsOfLevel rfl rfl rfl (by decide +kernel) ⟨Nat.le_of_ble_eq_true rfl, Nat.le_of_ble_eq_true rfl⟩) (preS hC hS hLo) rfl rfl hl.1 rfl (lv_room (Nat.le_of_ble_eq_true rfl)) dX5_weighBlock_35 ⟨Nat.zero_le _, Nat.zero_le _⟩) hS (fun locs hS => ?_)
            refine gAdd (z := nI ((LB df b q i) + (lbits (lv (df (px b i)) q)))) hx hb dX5_weighBlock_38 (nI_add _ _) ?_
            refine lv_istore_n (lv' := [(3, .int (nI ((LB df b q i) + (lbits (lv (df (px b i)) q))))), (0, .ref ph), (1, .int (nI (b))), (2, .int (nI (q))), (4, .int (nI (i)))]) hx hb dX5_weighBlock_39 rfl hl (by decide) rfl (fun ls hl => ?_)
            refine lv_iinc (v := nI (i + 1)) (lv' := [(4, .int (nI (i + 1))), (3, .int (nI ((LB df b q i) + (lbits (lv (df (px b i)) q))))), (0, .ref ph), (1, .int (nI (b))), (2, .int (nI (q)))]) hx hb dX5_weighBlock_40 hl (k := 4) rfl (inc_p i 1) (by decide) rfl (fun ls hl => ?_)
            refine lv_goto (tgt := 16) hx hb dX5_weighBlock_43 (by decide) ?_
            exact ih_16 (i + 1) (by omega) (by omega) locs ls hS (lv_sub hl [2, 3, 4, 1, 0] ((lvc rfl (lvc rfl (lvc rfl (lvc (congrArg Value.int (rfl)) (lvc rfl rfl)))))))
      exact L_16 (16 + 1) 0 (Nat.lt_succ_self _) (by omega) locs ls hS (lv_sub hl [2, 3, 4, 1, 0] (lvc rfl (lvc rfl (lvc rfl (lvc (congrArg Value.int (rfl)) (lvc rfl rfl))))))
    · have f_21 : ¬ ((b : Nat) : Int) < (4 : Int) := fun z => c_4 ((c_lt (nI_toInt (n := b) (by omega)) (nI_toInt (n := 4) (by omega))).mpr z)
      exfalso; omega

set_option maxHeartbeats 4000000 in
set_option maxRecDepth 100000 in
theorem c_X5_weighPicture {l : Launch} {G : GT} {H0 : Heap} (ph p1 p2 p3 p4 p5 : Nat) (mo ki : Nat → Nat) (pr df : Nat → Int) (co : Int32) (bi : Nat) (q : Nat) (hq : 1 ≤ q ∧ q ≤ 8) (hdf : D15 df) (hmo : M25 mo) (hP0 : PP G ([(ph, .inr (4, [.ref p1, .ref p2, .ref p3, .ref p5, .int (co), .int (nI (bi))])), (p1, .inl (cI G, 4, .inl (fun z9 => nI (mo z9)))), (p2, .inl (cI G, 4, .inl (fun z9 => nI (ki z9)))), (p3, .inr (3, [.ref p4])), (p4, .inl (cI G, 64, .inl (fun z9 => iI (pr z9)))), (p5, .inl (cI G, 64, .inl (fun z9 => iI (df z9))))]) H0) (hB0 : va_D (lo G) ([(ph, .inr (4, [.ref p1, .ref p2, .ref p3, .ref p5, .int (co), .int (nI (bi))])), (p1, .inl (cI G, 4, .inl (fun z9 => nI (mo z9)))), (p2, .inl (cI G, 4, .inl (fun z9 => nI (ki z9)))), (p3, .inr (3, [.ref p4])), (p4, .inl (cI G, 64, .inl (fun z9 => iI (pr z9)))), (p5, .inl (cI G, 64, .inl (fun z9 => iI (df z9))))])) : Met l yX5_weighPicture wsX5_weighPicture ({ frames := 2, cells := 0, slots := 0, locals := 47 } : Room) (pcG G [.ref ph, .int (nI (q))] H0) (qMv G (fun (u : Unit) => u = ()) (fun (u : Unit) => [(ph, .inr (4, [.ref p1, .ref p2, .ref p3, .ref p5, .int (nI (q)), .int (nI (wbS mo df q 4))])), (p1, .inl (cI G, 4, .inl (fun z9 => nI (mo z9)))), (p2, .inl (cI G, 4, .inl (fun z9 => nI ((wkS mo df q ki 4) z9)))), (p3, .inr (3, [.ref p4])), (p4, .inl (cI G, 64, .inl (fun z9 => iI (pr z9)))), (p5, .inl (cI G, 64, .inl (fun z9 => iI (df z9))))]) ([(ph, .inr (4, [.ref p1, .ref p2, .ref p3, .ref p5, .int (co), .int (nI (bi))])), (p1, .inl (cI G, 4, .inl (fun z9 => nI (mo z9)))), (p2, .inl (cI G, 4, .inl (fun z9 => nI (ki z9)))), (p3, .inr (3, [.ref p4])), (p4, .inl (cI G, 64, .inl (fun z9 => iI (pr z9)))), (p5, .inl (cI G, 64, .inl (fun z9 => iI (df z9))))]) H0) 0 0 (va_A ([(ph, .inr (4, [.ref p1, .ref p2, .ref p3, .ref p5, .int (co), .int (nI (bi))])), (p1, .inl (cI G, 4, .inl (fun z9 => nI (mo z9)))), (p2, .inl (cI G, 4, .inl (fun z9 => nI (ki z9)))), (p3, .inr (3, [.ref p4])), (p4, .inl (cI G, 64, .inl (fun z9 => iI (pr z9)))), (p5, .inl (cI G, 64, .inl (fun z9 => iI (df z9))))]) H0.size) := by
  refine enter (cc := cX5_weighPicture) (maxL := 3) (ret := none) (own := RX5) (lv := [(0, .ref ph), (1, .int (nI (q)))]) (by decide) rfl rfl rfl (Nat.le_of_ble_eq_true rfl) ?_
  intro pg ev s m below meth c hx hb hr hts hown hlocks hml hnm hH hC ls hl
  subst hH
  have hLo := va_freeB hB0 hC.2.2.2.1
  have hD := hB0.self (sz := s.heap.size)
  have hS : va_S (va_A ([(ph, .inr (4, [.ref p1, .ref p2, .ref p3, .ref p5, .int (co), .int (nI (bi))])), (p1, .inl (cI G, 4, .inl (fun z9 => nI (mo z9)))), (p2, .inl (cI G, 4, .inl (fun z9 => nI (ki z9)))), (p3, .inr (3, [.ref p4])), (p4, .inl (cI G, 64, .inl (fun z9 => iI (pr z9)))), (p5, .inl (cI G, 64, .inl (fun z9 => iI (df z9))))]) s.heap.size) s.heap s.heap [] := va_S.rf
  unfold qMv
  generalize hAe : va_A ([(ph, .inr (4, [.ref p1, .ref p2, .ref p3, .ref p5, .int (co), .int (nI (bi))])), (p1, .inl (cI G, 4, .inl (fun z9 => nI (mo z9)))), (p2, .inl (cI G, 4, .inl (fun z9 => nI (ki z9)))), (p3, .inr (3, [.ref p4])), (p4, .inl (cI G, 64, .inl (fun z9 => iI (pr z9)))), (p5, .inl (cI G, 64, .inl (fun z9 => iI (df z9))))]) s.heap.size = A at hD hLo hS ⊢
  have hA : ∀ q, s.heap.size ≤ q → A q := fun q h => by rw [← hAe]; exact Or.inr h
  generalize ([] : List Loc) = locs at hS ⊢
  have hP := hP0
  refine lv_aload_n hx hb dX5_weighPicture_0 rfl (lv_at hl 0 rfl) ?_
  refine lv_iload_n hx hb dX5_weighPicture_1 rfl (lv_at hl 1 rfl) ?_
  refine va_put (D := gD G) (cl := vwCl) (tys := tyl G) (ci := 4) (v := .int (nI (q))) (ty := .int) (C := RX5) (T := TX5) (N := 6) hx hb hts (by decide +kernel) tyX5 tyX5_ok nmX5 hown hC.K hP hD hS 0 rfl rfl 4 (by decide) (hts (.fieldLink RX5 28 "MotionPost$Plan" "coarseness" "I") (by decide +kernel)) (fun _ h9 => h9) rfl (by decide +kernel) (rfl) rfl (Nat.le_of_ble_eq_true rfl) dX5_weighPicture_2 (fun H locs hP hD hS => ?_)
  have hP : PP G ([(ph, .inr (4, [.ref p1, .ref p2, .ref p3, .ref p5, .int (nI (q)), .int (nI (bi))])), (p1, .inl (cI G, 4, .inl (fun z9 => nI (mo z9)))), (p2, .inl (cI G, 4, .inl (fun z9 => nI (ki z9)))), (p3, .inr (3, [.ref p4])), (p4, .inl (cI G, 64, .inl (fun z9 => iI (pr z9)))), (p5, .inl (cI G, 64, .inl (fun z9 => iI (df z9))))]) H := hP
  have hD : va_D A ([(ph, .inr (4, [.ref p1, .ref p2, .ref p3, .ref p5, .int (nI (q)), .int (nI (bi))])), (p1, .inl (cI G, 4, .inl (fun z9 => nI (mo z9)))), (p2, .inl (cI G, 4, .inl (fun z9 => nI (ki z9)))), (p3, .inr (3, [.ref p4])), (p4, .inl (cI G, 64, .inl (fun z9 => iI (pr z9)))), (p5, .inl (cI G, 64, .inl (fun z9 => iI (df z9))))]) := hD
  refine lv_aload_n hx hb dX5_weighPicture_5 rfl (lv_at hl 0 rfl) ?_
  refine lv_iconst (v := nI (0)) hx hb dX5_weighPicture_6 (by decide) ?_
  refine va_put (D := gD G) (cl := vwCl) (tys := tyl G) (ci := 4) (v := .int (nI (0))) (ty := .int) (C := RX5) (T := TX5) (N := 6) hx hb hts (by decide +kernel) tyX5 tyX5_ok nmX5 hown hC.K hP hD hS 0 rfl rfl 5 (by decide) (hts (.fieldLink RX5 32 "MotionPost$Plan" "bits" "I") (by decide +kernel)) (fun _ h9 => h9) rfl (by decide +kernel) (rfl) rfl (Nat.le_of_ble_eq_true rfl) dX5_weighPicture_7 (fun H locs hP hD hS => ?_)
  have hP : PP G ([(ph, .inr (4, [.ref p1, .ref p2, .ref p3, .ref p5, .int (nI (q)), .int (nI (0))])), (p1, .inl (cI G, 4, .inl (fun z9 => nI (mo z9)))), (p2, .inl (cI G, 4, .inl (fun z9 => nI (ki z9)))), (p3, .inr (3, [.ref p4])), (p4, .inl (cI G, 64, .inl (fun z9 => iI (pr z9)))), (p5, .inl (cI G, 64, .inl (fun z9 => iI (df z9))))]) H := hP
  have hD : va_D A ([(ph, .inr (4, [.ref p1, .ref p2, .ref p3, .ref p5, .int (nI (q)), .int (nI (0))])), (p1, .inl (cI G, 4, .inl (fun z9 => nI (mo z9)))), (p2, .inl (cI G, 4, .inl (fun z9 => nI (ki z9)))), (p3, .inr (3, [.ref p4])), (p4, .inl (cI G, 64, .inl (fun z9 => iI (pr z9)))), (p5, .inl (cI G, 64, .inl (fun z9 => iI (df z9))))]) := hD
  refine lv_iconst (v := nI (0)) hx hb dX5_weighPicture_10 (by decide) ?_
  refine lv_istore_n (lv' := [(2, .int (nI (0))), (0, .ref ph), (1, .int (nI (q)))]) hx hb dX5_weighPicture_11 rfl hl (by decide) rfl (fun ls hl => ?_)
  have L_12 : ∀ (n_12 : Nat) (i : Nat), 4 - i < n_12 → (i ≤ 4) → ∀ (H : Heap) (locs : List Loc) (ls : Array Slot), PP G ([(ph, .inr (4, [.ref p1, .ref p2, .ref p3, .ref p5, .int (nI (q)), .int (nI (wbS mo df q i))])), (p1, .inl (cI G, 4, .inl (fun z9 => nI (mo z9)))), (p2, .inl (cI G, 4, .inl (fun z9 => nI ((wkS mo df q ki i) z9)))), (p3, .inr (3, [.ref p4])), (p4, .inl (cI G, 64, .inl (fun z9 => iI (pr z9)))), (p5, .inl (cI G, 64, .inl (fun z9 => iI (df z9))))]) H → va_D A ([(ph, .inr (4, [.ref p1, .ref p2, .ref p3, .ref p5, .int (nI (q)), .int (nI (wbS mo df q i))])), (p1, .inl (cI G, 4, .inl (fun z9 => nI (mo z9)))), (p2, .inl (cI G, 4, .inl (fun z9 => nI ((wkS mo df q ki i) z9)))), (p3, .inr (3, [.ref p4])), (p4, .inl (cI G, 64, .inl (fun z9 => iI (pr z9)))), (p5, .inl (cI G, 64, .inl (fun z9 => iI (df z9))))]) → va_S A s.heap H locs → lv_has ls 3 [(0, .ref ph), (1, .int (nI (q))), (2, .int (nI (i)))] → W pg l ev ({ frames := 2, cells := 0, slots := 0, locals := 47 } : Room) s m (([.ref ph, .int (nI (q))] : List Value).toArray) below meth c H locs 0 0 (MQ below (va_Qv (fun (u : Unit) => u = ()) (fun (u : Unit) t9 => PP G ([(ph, .inr (4, [.ref p1, .ref p2, .ref p3, .ref p5, .int (nI (q)), .int (nI (wbS mo df q 4))])), (p1, .inl (cI G, 4, .inl (fun z9 => nI (mo z9)))), (p2, .inl (cI G, 4, .inl (fun z9 => nI ((wkS mo df q ki 4) z9)))), (p3, .inr (3, [.ref p4])), (p4, .inl (cI G, 64, .inl (fun z9 => iI (pr z9)))), (p5, .inl (cI G, 64, .inl (fun z9 => iI (df z9))))]) t9.heap) A) (([.ref ph, .int (nI (q))] : List Value).toArray) s 0 0 A) (F0 m 12 ls []) := by
    intro n_12
    induction n_12 with
    | zero => intro i hn; exact absurd hn (Nat.not_lt_zero _)
    | succ n_12 ih_12 =>
      intro i hn_12 hi H locs ls hP hD hS hl
      refine lv_iload_n hx hb dX5_weighPicture_12 rfl (lv_at hl 2 rfl) ?_
      refine lv_iconst (v := nI (4)) hx hb dX5_weighPicture_13 (by decide) ?_
      refine lv_icmp_ge (tgt := 38) hx hb dX5_weighPicture_14 (by decide) (fun c_1 => ?_) (fun c_1 => ?_)
      · have f_2 : (4 : Int) ≤ ((i : Nat) : Int) := (c_le (nI_toInt (n := 4) (by omega)) (nI_toInt (n := i) (by omega))).mp c_1
        have e_i : i = 4 := by omega
        replace e_i := e_i.symm
        subst e_i
        exact xMv (G := G) (post := (fun (u : Unit) => u = ())) (w1 := (fun (u : Unit) => [(ph, .inr (4, [.ref p1, .ref p2, .ref p3, .ref p5, .int (nI (q)), .int (nI (wbS mo df q 4))])), (p1, .inl (cI G, 4, .inl (fun z9 => nI (mo z9)))), (p2, .inl (cI G, 4, .inl (fun z9 => nI ((wkS mo df q ki 4) z9)))), (p3, .inr (3, [.ref p4])), (p4, .inl (cI G, 64, .inl (fun z9 => iI (pr z9)))), (p5, .inl (cI G, 64, .inl (fun z9 => iI (df z9))))])) (()) hx hb hr hlocks hP hS (by exact rfl) dX5_weighPicture_38
      · have f_3 : ¬ (4 : Int) ≤ ((i : Nat) : Int) := fun z => c_1 ((c_le (nI_toInt (n := 4) (by omega)) (nI_toInt (n := i) (by omega))).mpr z)
        refine lv_aload_n hx hb dX5_weighPicture_17 rfl (lv_at hl 0 rfl) ?_
        refine lv_dup hx hb dX5_weighPicture_18 rfl ?_
        refine va_get (D := gD G) (cl := vwCl) (tys := tyl G) (ci := 4) (v := .int (nI (wbS mo df q i))) (C := RX5) (T := TX5) (N := 6) hx hb hts (by decide +kernel) hown hC.K hP 0 rfl rfl 5 (by decide) (hts (.fieldLink RX5 32 "MotionPost$Plan" "bits" "I") (by decide +kernel)) (fun _ h9 => h9) rfl dX5_weighPicture_19 ?_
        refine lv_aload_n hx hb dX5_weighPicture_22 rfl (lv_at hl 0 rfl) ?_
        refine lv_iload_n hx hb dX5_weighPicture_23 rfl (lv_at hl 2 rfl) ?_
        refine lv_iload_n hx hb dX5_weighPicture_24 rfl (lv_at hl 1 rfl) ?_
        refine kMi (va_runV (As := [.int (nI (i)), .int (nI (q))]) (rest := [.int (nI (wbS mo df q i)), .ref ph]) ⟨hx, hb, hml, hown, hts⟩ (c_X5_weighBlock ph p1 p2 p3 p4 p5 mo (wkS mo df q ki i) pr df (nI (q)) (wbS mo df q i) i q (by first | assumption | omega) (by first | assumption | omega) (by first | assumption | omega) (by first | assumption | omega) (hP.sub [0, 1, 2, 3, 4, 5] rfl) ((hD.sub [0, 1, 2, 3, 4, 5] (by decide) rfl).weaken (fun _ _ _ h => hLo _ h))) (cwV 2 hts gX5_weighPicture_X5_weighBlock rfl rfl rfl (by decide +kernel) ⟨Nat.le_of_ble_eq_true rfl, Nat.le_of_ble_eq_true rfl⟩) (preV hC hS hLo hP (ci := 4) (q0 := 0) rfl rfl) rfl rfl hl.1 rfl (lv_room (Nat.le_of_ble_eq_true rfl)) dX5_weighPicture_25 ⟨Nat.zero_le _, Nat.zero_le _⟩) hP hD hS hA [0, 1, 2, 3, 4, 5] (by decide) rfl (fun _ => rfl) (fun r_6 u_4 H locs q_5 hP hD hS => ?_)
        have hP : PP G ([(ph, .inr (4, [.ref p1, .ref p2, .ref p3, .ref p5, .int ((nI (q))), .int (nI ((wbS mo df q i)))])), (p1, .inl (cI G, 4, .inl (fun z9 => nI (mo z9)))), (p2, .inl (cI G, 4, .inl (fun z9 => nI ((va_up (wkS mo df q ki i) i (kdW (mo i) (LB df i q 16))) z9)))), (p3, .inr (3, [.ref p4])), (p4, .inl (cI G, 64, .inl (fun z9 => iI (pr z9)))), (p5, .inl (cI G, 64, .inl (fun z9 => iI (df z9))))]) H := hP
        have hD : va_D A ([(ph, .inr (4, [.ref p1, .ref p2, .ref p3, .ref p5, .int ((nI (q))), .int (nI ((wbS mo df q i)))])), (p1, .inl (cI G, 4, .inl (fun z9 => nI (mo z9)))), (p2, .inl (cI G, 4, .inl (fun z9 => nI ((va_up (wkS mo df q ki i) i (kdW (mo i) (LB df i q 16))) z9)))), (p3, .inr (3, [.ref p4])), (p4, .inl (cI G, 64, .inl (fun z9 => iI (pr z9)))), (p5, .inl (cI G, 64, .inl (fun z9 => iI (df z9))))]) := hD
        refine topE (v' := nI (btW (mo i) (LB df i q 16))) (q_5) ?_
        refine gAdd (z := nI ((wbS mo df q i) + (btW (mo i) (LB df i q 16)))) hx hb dX5_weighPicture_28 (nI_add _ _) ?_
        refine va_put (D := gD G) (cl := vwCl) (tys := tyl G) (ci := 4) (v := .int (nI ((wbS mo df q i) + (btW (mo i) (LB df i q 16))))) (ty := .int) (C := RX5) (T := TX5) (N := 6) hx hb hts (by decide +kernel) tyX5 tyX5_ok nmX5 hown hC.K hP hD hS 0 rfl rfl 5 (by decide) (hts (.fieldLink RX5 32 "MotionPost$Plan" "bits" "I") (by decide +kernel)) (fun _ h9 => h9) rfl (by decide +kernel) (rfl) rfl (Nat.le_of_ble_eq_true rfl) dX5_weighPicture_29 (fun H locs hP hD hS => ?_)
        have hP : PP G ([(ph, .inr (4, [.ref p1, .ref p2, .ref p3, .ref p5, .int ((nI (q))), .int (nI ((wbS mo df q i) + (btW (mo i) (LB df i q 16))))])), (p1, .inl (cI G, 4, .inl (fun z9 => nI (mo z9)))), (p2, .inl (cI G, 4, .inl (fun z9 => nI ((va_up (wkS mo df q ki i) i (kdW (mo i) (LB df i q 16))) z9)))), (p3, .inr (3, [.ref p4])), (p4, .inl (cI G, 64, .inl (fun z9 => iI (pr z9)))), (p5, .inl (cI G, 64, .inl (fun z9 => iI (df z9))))]) H := hP
        have hD : va_D A ([(ph, .inr (4, [.ref p1, .ref p2, .ref p3, .ref p5, .int ((nI (q))), .int (nI ((wbS mo df q i) + (btW (mo i) (LB df i q 16))))])), (p1, .inl (cI G, 4, .inl (fun z9 => nI (mo z9)))), (p2, .inl (cI G, 4, .inl (fun z9 => nI ((va_up (wkS mo df q ki i) i (kdW (mo i) (LB df i q 16))) z9)))), (p3, .inr (3, [.ref p4])), (p4, .inl (cI G, 64, .inl (fun z9 => iI (pr z9)))), (p5, .inl (cI G, 64, .inl (fun z9 => iI (df z9))))]) := hD
        refine lv_iinc (v := nI (i + 1)) (lv' := [(2, .int (nI (i + 1))), (0, .ref ph), (1, .int (nI (q)))]) hx hb dX5_weighPicture_32 hl (k := 2) rfl (inc_p i 1) (by decide) rfl (fun ls hl => ?_)
        refine lv_goto (tgt := 12) hx hb dX5_weighPicture_35 (by decide) ?_
        exact ih_12 (i + 1) (by omega) (by omega) H locs ls hP hD hS (lv_sub hl [1, 2, 0] ((lvc rfl (lvc rfl (lvc rfl rfl)))))
  exact L_12 (4 + 1) 0 (Nat.lt_succ_self _) (by omega) H locs ls hP hD hS (lv_sub hl [1, 2, 0] (lvc rfl (lvc rfl (lvc rfl rfl))))

set_option maxHeartbeats 4000000 in
set_option maxRecDepth 100000 in
theorem c_X5_foreseePicture_k {l : Launch} {G : GT} {H0 : Heap} (ph p1 p2 p3 p4 p5 : Nat) (mo ki : Nat → Nat) (pr df : Nat → Int) (co : Int32) (bi : Nat) (h a1 a2 a3 a4 a5 a6 a7 a8 : Nat) (d t r : Nat → Int) (k o : Nat → Nat) (bu kd pi lc sb : Nat) (hkd : 1 ≤ kd ∧ kd ≤ 20) (hpi : pi ≤ 999) (hkey : pi % kd = 0) (hP0 : PP G ([(ph, .inr (4, [.ref p1, .ref p2, .ref p3, .ref p5, .int (co), .int (nI (bi))])), (p1, .inl (cI G, 4, .inl (fun z9 => nI (mo z9)))), (p2, .inl (cI G, 4, .inl (fun z9 => nI (ki z9)))), (p3, .inr (3, [.ref p4])), (p4, .inl (cI G, 64, .inl (fun z9 => iI (pr z9)))), (p5, .inl (cI G, 64, .inl (fun z9 => iI (df z9)))), (h, .inr (6, [.ref a1, .ref a3, .ref a5, .ref a7, .ref a8, .int (nI (bu)), .int (nI (kd)), .int (nI (pi)), .int (nI (lc)), .int (nI (sb))])), (a1, .inr (3, [.ref a2])), (a2, .inl (cI G, 64, .inl (fun z9 => iI (d z9)))), (a3, .inr (3, [.ref a4])), (a4, .inl (cI G, 64, .inl (fun z9 => iI (t z9)))), (a5, .inr (3, [.ref a6])), (a6, .inl (cI G, 64, .inl (fun z9 => iI (r z9)))), (a7, .inl (cI G, 4, .inl (fun z9 => nI (k z9)))), (a8, .inl (cI G, 4, .inl (fun z9 => nI (o z9))))]) H0) (hB0 : va_D (lo G) ([(ph, .inr (4, [.ref p1, .ref p2, .ref p3, .ref p5, .int (co), .int (nI (bi))])), (p1, .inl (cI G, 4, .inl (fun z9 => nI (mo z9)))), (p2, .inl (cI G, 4, .inl (fun z9 => nI (ki z9)))), (p3, .inr (3, [.ref p4])), (p4, .inl (cI G, 64, .inl (fun z9 => iI (pr z9)))), (p5, .inl (cI G, 64, .inl (fun z9 => iI (df z9)))), (h, .inr (6, [.ref a1, .ref a3, .ref a5, .ref a7, .ref a8, .int (nI (bu)), .int (nI (kd)), .int (nI (pi)), .int (nI (lc)), .int (nI (sb))])), (a1, .inr (3, [.ref a2])), (a2, .inl (cI G, 64, .inl (fun z9 => iI (d z9)))), (a3, .inr (3, [.ref a4])), (a4, .inl (cI G, 64, .inl (fun z9 => iI (t z9)))), (a5, .inr (3, [.ref a6])), (a6, .inl (cI G, 64, .inl (fun z9 => iI (r z9)))), (a7, .inl (cI G, 4, .inl (fun z9 => nI (k z9)))), (a8, .inl (cI G, 4, .inl (fun z9 => nI (o z9))))])) : Met l yX5_foreseePicture wsX5_foreseePicture ({ frames := 1, cells := 0, slots := 0, locals := 21 } : Room) (pcG G [.ref ph, .ref h] H0) (qMv G (fun (u : Unit) => u = ()) (fun (u : Unit) => [(ph, .inr (4, [.ref p1, .ref p2, .ref p3, .ref p5, .int (iI (-1)), .int (nI (264))])), (p1, .inl (cI G, 4, .inl (fun z9 => nI (mo z9)))), (p2, .inl (cI G, 4, .inl (fun z9 => nI ((fzK ki 4) z9)))), (p3, .inr (3, [.ref p4])), (p4, .inl (cI G, 64, .inl (fun z9 => iI (pr z9)))), (p5, .inl (cI G, 64, .inl (fun z9 => iI (df z9)))), (h, .inr (6, [.ref a1, .ref a3, .ref a5, .ref a7, .ref a8, .int (nI (bu)), .int (nI (kd)), .int (nI (pi)), .int (nI (lc)), .int (nI (sb))])), (a1, .inr (3, [.ref a2])), (a2, .inl (cI G, 64, .inl (fun z9 => iI (d z9)))), (a3, .inr (3, [.ref a4])), (a4, .inl (cI G, 64, .inl (fun z9 => iI (t z9)))), (a5, .inr (3, [.ref a6])), (a6, .inl (cI G, 64, .inl (fun z9 => iI (r z9)))), (a7, .inl (cI G, 4, .inl (fun z9 => nI (k z9)))), (a8, .inl (cI G, 4, .inl (fun z9 => nI (o z9))))]) ([(ph, .inr (4, [.ref p1, .ref p2, .ref p3, .ref p5, .int (co), .int (nI (bi))])), (p1, .inl (cI G, 4, .inl (fun z9 => nI (mo z9)))), (p2, .inl (cI G, 4, .inl (fun z9 => nI (ki z9)))), (p3, .inr (3, [.ref p4])), (p4, .inl (cI G, 64, .inl (fun z9 => iI (pr z9)))), (p5, .inl (cI G, 64, .inl (fun z9 => iI (df z9)))), (h, .inr (6, [.ref a1, .ref a3, .ref a5, .ref a7, .ref a8, .int (nI (bu)), .int (nI (kd)), .int (nI (pi)), .int (nI (lc)), .int (nI (sb))])), (a1, .inr (3, [.ref a2])), (a2, .inl (cI G, 64, .inl (fun z9 => iI (d z9)))), (a3, .inr (3, [.ref a4])), (a4, .inl (cI G, 64, .inl (fun z9 => iI (t z9)))), (a5, .inr (3, [.ref a6])), (a6, .inl (cI G, 64, .inl (fun z9 => iI (r z9)))), (a7, .inl (cI G, 4, .inl (fun z9 => nI (k z9)))), (a8, .inl (cI G, 4, .inl (fun z9 => nI (o z9))))]) H0) 0 0 (va_A ([(ph, .inr (4, [.ref p1, .ref p2, .ref p3, .ref p5, .int (co), .int (nI (bi))])), (p1, .inl (cI G, 4, .inl (fun z9 => nI (mo z9)))), (p2, .inl (cI G, 4, .inl (fun z9 => nI (ki z9)))), (p3, .inr (3, [.ref p4])), (p4, .inl (cI G, 64, .inl (fun z9 => iI (pr z9)))), (p5, .inl (cI G, 64, .inl (fun z9 => iI (df z9)))), (h, .inr (6, [.ref a1, .ref a3, .ref a5, .ref a7, .ref a8, .int (nI (bu)), .int (nI (kd)), .int (nI (pi)), .int (nI (lc)), .int (nI (sb))])), (a1, .inr (3, [.ref a2])), (a2, .inl (cI G, 64, .inl (fun z9 => iI (d z9)))), (a3, .inr (3, [.ref a4])), (a4, .inl (cI G, 64, .inl (fun z9 => iI (t z9)))), (a5, .inr (3, [.ref a6])), (a6, .inl (cI G, 64, .inl (fun z9 => iI (r z9)))), (a7, .inl (cI G, 4, .inl (fun z9 => nI (k z9)))), (a8, .inl (cI G, 4, .inl (fun z9 => nI (o z9))))]) H0.size) := by
  refine enter (cc := cX5_foreseePicture) (maxL := 3) (ret := none) (own := RX5) (lv := [(0, .ref ph), (1, .ref h)]) (by decide) rfl rfl rfl (Nat.le_of_ble_eq_true rfl) ?_
  intro pg ev s m below meth c hx hb hr hts hown hlocks hml hnm hH hC ls hl
  subst hH
  have hLo := va_freeB hB0 hC.2.2.2.1
  have hD := hB0.self (sz := s.heap.size)
  have hS : va_S (va_A ([(ph, .inr (4, [.ref p1, .ref p2, .ref p3, .ref p5, .int (co), .int (nI (bi))])), (p1, .inl (cI G, 4, .inl (fun z9 => nI (mo z9)))), (p2, .inl (cI G, 4, .inl (fun z9 => nI (ki z9)))), (p3, .inr (3, [.ref p4])), (p4, .inl (cI G, 64, .inl (fun z9 => iI (pr z9)))), (p5, .inl (cI G, 64, .inl (fun z9 => iI (df z9)))), (h, .inr (6, [.ref a1, .ref a3, .ref a5, .ref a7, .ref a8, .int (nI (bu)), .int (nI (kd)), .int (nI (pi)), .int (nI (lc)), .int (nI (sb))])), (a1, .inr (3, [.ref a2])), (a2, .inl (cI G, 64, .inl (fun z9 => iI (d z9)))), (a3, .inr (3, [.ref a4])), (a4, .inl (cI G, 64, .inl (fun z9 => iI (t z9)))), (a5, .inr (3, [.ref a6])), (a6, .inl (cI G, 64, .inl (fun z9 => iI (r z9)))), (a7, .inl (cI G, 4, .inl (fun z9 => nI (k z9)))), (a8, .inl (cI G, 4, .inl (fun z9 => nI (o z9))))]) s.heap.size) s.heap s.heap [] := va_S.rf
  unfold qMv
  generalize hAe : va_A ([(ph, .inr (4, [.ref p1, .ref p2, .ref p3, .ref p5, .int (co), .int (nI (bi))])), (p1, .inl (cI G, 4, .inl (fun z9 => nI (mo z9)))), (p2, .inl (cI G, 4, .inl (fun z9 => nI (ki z9)))), (p3, .inr (3, [.ref p4])), (p4, .inl (cI G, 64, .inl (fun z9 => iI (pr z9)))), (p5, .inl (cI G, 64, .inl (fun z9 => iI (df z9)))), (h, .inr (6, [.ref a1, .ref a3, .ref a5, .ref a7, .ref a8, .int (nI (bu)), .int (nI (kd)), .int (nI (pi)), .int (nI (lc)), .int (nI (sb))])), (a1, .inr (3, [.ref a2])), (a2, .inl (cI G, 64, .inl (fun z9 => iI (d z9)))), (a3, .inr (3, [.ref a4])), (a4, .inl (cI G, 64, .inl (fun z9 => iI (t z9)))), (a5, .inr (3, [.ref a6])), (a6, .inl (cI G, 64, .inl (fun z9 => iI (r z9)))), (a7, .inl (cI G, 4, .inl (fun z9 => nI (k z9)))), (a8, .inl (cI G, 4, .inl (fun z9 => nI (o z9))))]) s.heap.size = A at hD hLo hS ⊢
  have hA : ∀ q, s.heap.size ≤ q → A q := fun q h => by rw [← hAe]; exact Or.inr h
  generalize ([] : List Loc) = locs at hS ⊢
  have hP := hP0
  refine lv_aload_n hx hb dX5_foreseePicture_0 rfl (lv_at hl 1 rfl) ?_
  refine kPi (va_runVN (As := []) (rest := []) ⟨hx, hb, hml, hown, hts⟩ (c_X7_isKeyDue h a1 a2 a3 a4 a5 a6 a7 a8 d t r k o bu kd pi lc sb (by first | assumption | omega) (by first | assumption | omega) (hP.sub [6, 7, 8, 9, 10, 11, 12, 13, 14] rfl)) ⟨va_cnB 0 hts gX5_foreseePicture_X7_isKeyDue_n35 rfl rfl rfl (hC.nest 36 rfl) (hts (.initialized RX7) (by decide +kernel)) (by decide +kernel) ⟨Nat.le_of_ble_eq_true rfl, Nat.le_of_ble_eq_true rfl⟩, (hts (.instanceMethod yX7_isKeyDue) (by decide +kernel)), (hts (.selects RX7 yX7_isKeyDue yX7_isKeyDue) (by decide +kernel))⟩ (preV hC hS hLo hP (ci := 6) (q0 := 6) rfl rfl) rfl rfl hl.1 rfl (lv_room (Nat.le_of_ble_eq_true rfl)) dX5_foreseePicture_1 ⟨Nat.zero_le _, Nat.zero_le _⟩) hS (fun locs hS => ?_)
  refine lv_if_eq (tgt := 12) hx hb dX5_foreseePicture_4 (by decide) (fun c_1 => ?_) (fun c_1 => ?_)
  · have f_2 : ¬ (pi % kd = 0) := bI_0.mp c_1
    exact absurd hkey f_2
  · have f_3 : (pi % kd = 0) := Classical.byContradiction (fun z => c_1 (bI_0.mpr z))
    refine lv_aload_n hx hb dX5_foreseePicture_7 rfl (lv_at hl 0 rfl) ?_
    refine kMv (va_runV (As := []) (rest := []) ⟨hx, hb, hml, hown, hts⟩ (c_X5_foreseeKey ph p1 p2 p3 p4 p5 mo ki pr df co bi (hP.sub [0, 1, 2, 3, 4, 5] rfl) ((hD.sub [0, 1, 2, 3, 4, 5] (by decide) rfl).weaken (fun _ _ _ h => hLo _ h))) (cwV 0 hts gX5_foreseePicture_X5_foreseeKey rfl rfl rfl (by decide +kernel) ⟨Nat.le_of_ble_eq_true rfl, Nat.le_of_ble_eq_true rfl⟩) (preV hC hS hLo hP (ci := 4) (q0 := 0) rfl rfl) rfl rfl hl.1 rfl (lv_room (Nat.le_of_ble_eq_true rfl)) dX5_foreseePicture_8 ⟨Nat.zero_le _, Nat.zero_le _⟩) hP hD hS hA [0, 1, 2, 3, 4, 5] (by decide) rfl (fun _ => rfl) (fun u_4 H locs q_5 hP hD hS => ?_)
    have hP : PP G ([(ph, .inr (4, [.ref p1, .ref p2, .ref p3, .ref p5, .int (iI (-1)), .int (nI (264))])), (p1, .inl (cI G, 4, .inl (fun z9 => nI (mo z9)))), (p2, .inl (cI G, 4, .inl (fun z9 => nI ((fzK ki 4) z9)))), (p3, .inr (3, [.ref p4])), (p4, .inl (cI G, 64, .inl (fun z9 => iI (pr z9)))), (p5, .inl (cI G, 64, .inl (fun z9 => iI (df z9)))), (h, .inr (6, [.ref a1, .ref a3, .ref a5, .ref a7, .ref a8, .int (nI (bu)), .int (nI (kd)), .int (nI (pi)), .int (nI (lc)), .int (nI (sb))])), (a1, .inr (3, [.ref a2])), (a2, .inl (cI G, 64, .inl (fun z9 => iI (d z9)))), (a3, .inr (3, [.ref a4])), (a4, .inl (cI G, 64, .inl (fun z9 => iI (t z9)))), (a5, .inr (3, [.ref a6])), (a6, .inl (cI G, 64, .inl (fun z9 => iI (r z9)))), (a7, .inl (cI G, 4, .inl (fun z9 => nI (k z9)))), (a8, .inl (cI G, 4, .inl (fun z9 => nI (o z9))))]) H := hP
    have hD : va_D A ([(ph, .inr (4, [.ref p1, .ref p2, .ref p3, .ref p5, .int (iI (-1)), .int (nI (264))])), (p1, .inl (cI G, 4, .inl (fun z9 => nI (mo z9)))), (p2, .inl (cI G, 4, .inl (fun z9 => nI ((fzK ki 4) z9)))), (p3, .inr (3, [.ref p4])), (p4, .inl (cI G, 64, .inl (fun z9 => iI (pr z9)))), (p5, .inl (cI G, 64, .inl (fun z9 => iI (df z9)))), (h, .inr (6, [.ref a1, .ref a3, .ref a5, .ref a7, .ref a8, .int (nI (bu)), .int (nI (kd)), .int (nI (pi)), .int (nI (lc)), .int (nI (sb))])), (a1, .inr (3, [.ref a2])), (a2, .inl (cI G, 64, .inl (fun z9 => iI (d z9)))), (a3, .inr (3, [.ref a4])), (a4, .inl (cI G, 64, .inl (fun z9 => iI (t z9)))), (a5, .inr (3, [.ref a6])), (a6, .inl (cI G, 64, .inl (fun z9 => iI (r z9)))), (a7, .inl (cI G, 4, .inl (fun z9 => nI (k z9)))), (a8, .inl (cI G, 4, .inl (fun z9 => nI (o z9))))]) := hD
    exact xMv (G := G) (post := (fun (u : Unit) => u = ())) (w1 := (fun (u : Unit) => [(ph, .inr (4, [.ref p1, .ref p2, .ref p3, .ref p5, .int (iI (-1)), .int (nI (264))])), (p1, .inl (cI G, 4, .inl (fun z9 => nI (mo z9)))), (p2, .inl (cI G, 4, .inl (fun z9 => nI ((fzK ki 4) z9)))), (p3, .inr (3, [.ref p4])), (p4, .inl (cI G, 64, .inl (fun z9 => iI (pr z9)))), (p5, .inl (cI G, 64, .inl (fun z9 => iI (df z9)))), (h, .inr (6, [.ref a1, .ref a3, .ref a5, .ref a7, .ref a8, .int (nI (bu)), .int (nI (kd)), .int (nI (pi)), .int (nI (lc)), .int (nI (sb))])), (a1, .inr (3, [.ref a2])), (a2, .inl (cI G, 64, .inl (fun z9 => iI (d z9)))), (a3, .inr (3, [.ref a4])), (a4, .inl (cI G, 64, .inl (fun z9 => iI (t z9)))), (a5, .inr (3, [.ref a6])), (a6, .inl (cI G, 64, .inl (fun z9 => iI (r z9)))), (a7, .inl (cI G, 4, .inl (fun z9 => nI (k z9)))), (a8, .inl (cI G, 4, .inl (fun z9 => nI (o z9))))])) (()) hx hb hr hlocks hP hS (by exact rfl) dX5_foreseePicture_11

set_option maxHeartbeats 4000000 in
set_option maxRecDepth 100000 in
theorem c_X5_foreseePicture {l : Launch} {G : GT} {H0 : Heap} (ph p1 p2 p3 p4 p5 : Nat) (mo ki : Nat → Nat) (pr df : Nat → Int) (co : Int32) (bi : Nat) (h a1 a2 a3 a4 a5 a6 a7 a8 : Nat) (d t r : Nat → Int) (k o : Nat → Nat) (bu kd pi lc sb : Nat) (hd : R15 d) (ht : R15 t) (hdf : D15 df) (hmo : M25 mo) (hkd : 1 ≤ kd ∧ kd ≤ 20) (hpi : pi ≤ 999) (hkey : ¬ pi % kd = 0) (hbu : bu ≤ 300) (hP0 : PP G ([(ph, .inr (4, [.ref p1, .ref p2, .ref p3, .ref p5, .int (co), .int (nI (bi))])), (p1, .inl (cI G, 4, .inl (fun z9 => nI (mo z9)))), (p2, .inl (cI G, 4, .inl (fun z9 => nI (ki z9)))), (p3, .inr (3, [.ref p4])), (p4, .inl (cI G, 64, .inl (fun z9 => iI (pr z9)))), (p5, .inl (cI G, 64, .inl (fun z9 => iI (df z9)))), (h, .inr (6, [.ref a1, .ref a3, .ref a5, .ref a7, .ref a8, .int (nI (bu)), .int (nI (kd)), .int (nI (pi)), .int (nI (lc)), .int (nI (sb))])), (a1, .inr (3, [.ref a2])), (a2, .inl (cI G, 64, .inl (fun z9 => iI (d z9)))), (a3, .inr (3, [.ref a4])), (a4, .inl (cI G, 64, .inl (fun z9 => iI (t z9)))), (a5, .inr (3, [.ref a6])), (a6, .inl (cI G, 64, .inl (fun z9 => iI (r z9)))), (a7, .inl (cI G, 4, .inl (fun z9 => nI (k z9)))), (a8, .inl (cI G, 4, .inl (fun z9 => nI (o z9))))]) H0) (hB0 : va_D (lo G) ([(ph, .inr (4, [.ref p1, .ref p2, .ref p3, .ref p5, .int (co), .int (nI (bi))])), (p1, .inl (cI G, 4, .inl (fun z9 => nI (mo z9)))), (p2, .inl (cI G, 4, .inl (fun z9 => nI (ki z9)))), (p3, .inr (3, [.ref p4])), (p4, .inl (cI G, 64, .inl (fun z9 => iI (pr z9)))), (p5, .inl (cI G, 64, .inl (fun z9 => iI (df z9)))), (h, .inr (6, [.ref a1, .ref a3, .ref a5, .ref a7, .ref a8, .int (nI (bu)), .int (nI (kd)), .int (nI (pi)), .int (nI (lc)), .int (nI (sb))])), (a1, .inr (3, [.ref a2])), (a2, .inl (cI G, 64, .inl (fun z9 => iI (d z9)))), (a3, .inr (3, [.ref a4])), (a4, .inl (cI G, 64, .inl (fun z9 => iI (t z9)))), (a5, .inr (3, [.ref a6])), (a6, .inl (cI G, 64, .inl (fun z9 => iI (r z9)))), (a7, .inl (cI G, 4, .inl (fun z9 => nI (k z9)))), (a8, .inl (cI G, 4, .inl (fun z9 => nI (o z9))))])) : Met l yX5_foreseePicture wsX5_foreseePicture ({ frames := 3, cells := 0, slots := 0, locals := 77 } : Room) (pcG G [.ref ph, .ref h] H0) (qMv G (fun (u : Nat → Nat) => ∀ b, b < 4 → u b = kdW (moS d t mo 4 b) (LB (dfS d t df 4) b (COA (fun q9 => wbS (moS d t mo 4) (dfS d t df 4) q9 4) bu) 16)) (fun (u : Nat → Nat) => [(ph, .inr (4, [.ref p1, .ref p2, .ref p3, .ref p5, .int (nI (COA (fun q9 => wbS (moS d t mo 4) (dfS d t df 4) q9 4) bu)), .int (nI (wbS (moS d t mo 4) (dfS d t df 4) (COA (fun q9 => wbS (moS d t mo 4) (dfS d t df 4) q9 4) bu) 4))])), (p1, .inl (cI G, 4, .inl (fun z9 => nI ((moS d t mo 4) z9)))), (p2, .inl (cI G, 4, .inl (fun z9 => nI (u z9)))), (p3, .inr (3, [.ref p4])), (p4, .inl (cI G, 64, .inl (fun z9 => iI ((prS d t pr 4) z9)))), (p5, .inl (cI G, 64, .inl (fun z9 => iI ((dfS d t df 4) z9)))), (h, .inr (6, [.ref a1, .ref a3, .ref a5, .ref a7, .ref a8, .int (nI (bu)), .int (nI (kd)), .int (nI (pi)), .int (nI (lc)), .int (nI (sb))])), (a1, .inr (3, [.ref a2])), (a2, .inl (cI G, 64, .inl (fun z9 => iI (d z9)))), (a3, .inr (3, [.ref a4])), (a4, .inl (cI G, 64, .inl (fun z9 => iI (t z9)))), (a5, .inr (3, [.ref a6])), (a6, .inl (cI G, 64, .inl (fun z9 => iI (r z9)))), (a7, .inl (cI G, 4, .inl (fun z9 => nI (k z9)))), (a8, .inl (cI G, 4, .inl (fun z9 => nI (o z9))))]) ([(ph, .inr (4, [.ref p1, .ref p2, .ref p3, .ref p5, .int (co), .int (nI (bi))])), (p1, .inl (cI G, 4, .inl (fun z9 => nI (mo z9)))), (p2, .inl (cI G, 4, .inl (fun z9 => nI (ki z9)))), (p3, .inr (3, [.ref p4])), (p4, .inl (cI G, 64, .inl (fun z9 => iI (pr z9)))), (p5, .inl (cI G, 64, .inl (fun z9 => iI (df z9)))), (h, .inr (6, [.ref a1, .ref a3, .ref a5, .ref a7, .ref a8, .int (nI (bu)), .int (nI (kd)), .int (nI (pi)), .int (nI (lc)), .int (nI (sb))])), (a1, .inr (3, [.ref a2])), (a2, .inl (cI G, 64, .inl (fun z9 => iI (d z9)))), (a3, .inr (3, [.ref a4])), (a4, .inl (cI G, 64, .inl (fun z9 => iI (t z9)))), (a5, .inr (3, [.ref a6])), (a6, .inl (cI G, 64, .inl (fun z9 => iI (r z9)))), (a7, .inl (cI G, 4, .inl (fun z9 => nI (k z9)))), (a8, .inl (cI G, 4, .inl (fun z9 => nI (o z9))))]) H0) 0 0 (va_A ([(ph, .inr (4, [.ref p1, .ref p2, .ref p3, .ref p5, .int (co), .int (nI (bi))])), (p1, .inl (cI G, 4, .inl (fun z9 => nI (mo z9)))), (p2, .inl (cI G, 4, .inl (fun z9 => nI (ki z9)))), (p3, .inr (3, [.ref p4])), (p4, .inl (cI G, 64, .inl (fun z9 => iI (pr z9)))), (p5, .inl (cI G, 64, .inl (fun z9 => iI (df z9)))), (h, .inr (6, [.ref a1, .ref a3, .ref a5, .ref a7, .ref a8, .int (nI (bu)), .int (nI (kd)), .int (nI (pi)), .int (nI (lc)), .int (nI (sb))])), (a1, .inr (3, [.ref a2])), (a2, .inl (cI G, 64, .inl (fun z9 => iI (d z9)))), (a3, .inr (3, [.ref a4])), (a4, .inl (cI G, 64, .inl (fun z9 => iI (t z9)))), (a5, .inr (3, [.ref a6])), (a6, .inl (cI G, 64, .inl (fun z9 => iI (r z9)))), (a7, .inl (cI G, 4, .inl (fun z9 => nI (k z9)))), (a8, .inl (cI G, 4, .inl (fun z9 => nI (o z9))))]) H0.size) := by
  refine enter (cc := cX5_foreseePicture) (maxL := 3) (ret := none) (own := RX5) (lv := [(0, .ref ph), (1, .ref h)]) (by decide) rfl rfl rfl (Nat.le_of_ble_eq_true rfl) ?_
  intro pg ev s m below meth c hx hb hr hts hown hlocks hml hnm hH hC ls hl
  subst hH
  have hLo := va_freeB hB0 hC.2.2.2.1
  have hD := hB0.self (sz := s.heap.size)
  have hS : va_S (va_A ([(ph, .inr (4, [.ref p1, .ref p2, .ref p3, .ref p5, .int (co), .int (nI (bi))])), (p1, .inl (cI G, 4, .inl (fun z9 => nI (mo z9)))), (p2, .inl (cI G, 4, .inl (fun z9 => nI (ki z9)))), (p3, .inr (3, [.ref p4])), (p4, .inl (cI G, 64, .inl (fun z9 => iI (pr z9)))), (p5, .inl (cI G, 64, .inl (fun z9 => iI (df z9)))), (h, .inr (6, [.ref a1, .ref a3, .ref a5, .ref a7, .ref a8, .int (nI (bu)), .int (nI (kd)), .int (nI (pi)), .int (nI (lc)), .int (nI (sb))])), (a1, .inr (3, [.ref a2])), (a2, .inl (cI G, 64, .inl (fun z9 => iI (d z9)))), (a3, .inr (3, [.ref a4])), (a4, .inl (cI G, 64, .inl (fun z9 => iI (t z9)))), (a5, .inr (3, [.ref a6])), (a6, .inl (cI G, 64, .inl (fun z9 => iI (r z9)))), (a7, .inl (cI G, 4, .inl (fun z9 => nI (k z9)))), (a8, .inl (cI G, 4, .inl (fun z9 => nI (o z9))))]) s.heap.size) s.heap s.heap [] := va_S.rf
  unfold qMv
  generalize hAe : va_A ([(ph, .inr (4, [.ref p1, .ref p2, .ref p3, .ref p5, .int (co), .int (nI (bi))])), (p1, .inl (cI G, 4, .inl (fun z9 => nI (mo z9)))), (p2, .inl (cI G, 4, .inl (fun z9 => nI (ki z9)))), (p3, .inr (3, [.ref p4])), (p4, .inl (cI G, 64, .inl (fun z9 => iI (pr z9)))), (p5, .inl (cI G, 64, .inl (fun z9 => iI (df z9)))), (h, .inr (6, [.ref a1, .ref a3, .ref a5, .ref a7, .ref a8, .int (nI (bu)), .int (nI (kd)), .int (nI (pi)), .int (nI (lc)), .int (nI (sb))])), (a1, .inr (3, [.ref a2])), (a2, .inl (cI G, 64, .inl (fun z9 => iI (d z9)))), (a3, .inr (3, [.ref a4])), (a4, .inl (cI G, 64, .inl (fun z9 => iI (t z9)))), (a5, .inr (3, [.ref a6])), (a6, .inl (cI G, 64, .inl (fun z9 => iI (r z9)))), (a7, .inl (cI G, 4, .inl (fun z9 => nI (k z9)))), (a8, .inl (cI G, 4, .inl (fun z9 => nI (o z9))))]) s.heap.size = A at hD hLo hS ⊢
  have hA : ∀ q, s.heap.size ≤ q → A q := fun q h => by rw [← hAe]; exact Or.inr h
  generalize ([] : List Loc) = locs at hS ⊢
  have hP := hP0
  refine lv_aload_n hx hb dX5_foreseePicture_0 rfl (lv_at hl 1 rfl) ?_
  refine kPi (va_runVN (As := []) (rest := []) ⟨hx, hb, hml, hown, hts⟩ (c_X7_isKeyDue h a1 a2 a3 a4 a5 a6 a7 a8 d t r k o bu kd pi lc sb (by first | assumption | omega) (by first | assumption | omega) (hP.sub [6, 7, 8, 9, 10, 11, 12, 13, 14] rfl)) ⟨va_cnB 0 hts gX5_foreseePicture_X7_isKeyDue_n35 rfl rfl rfl (hC.nest 36 rfl) (hts (.initialized RX7) (by decide +kernel)) (by decide +kernel) ⟨Nat.le_of_ble_eq_true rfl, Nat.le_of_ble_eq_true rfl⟩, (hts (.instanceMethod yX7_isKeyDue) (by decide +kernel)), (hts (.selects RX7 yX7_isKeyDue yX7_isKeyDue) (by decide +kernel))⟩ (preV hC hS hLo hP (ci := 6) (q0 := 6) rfl rfl) rfl rfl hl.1 rfl (lv_room (Nat.le_of_ble_eq_true rfl)) dX5_foreseePicture_1 ⟨Nat.zero_le _, Nat.zero_le _⟩) hS (fun locs hS => ?_)
  refine lv_if_eq (tgt := 12) hx hb dX5_foreseePicture_4 (by decide) (fun c_1 => ?_) (fun c_1 => ?_)
  · have f_2 : ¬ (pi % kd = 0) := bI_0.mp c_1
    refine lv_iconst (v := nI (0)) hx hb dX5_foreseePicture_12 (by decide) ?_
    refine lv_istore_n (lv' := [(2, .int (nI (0))), (0, .ref ph), (1, .ref h)]) hx hb dX5_foreseePicture_13 rfl hl (by decide) rfl (fun ls hl => ?_)
    have L_14 : ∀ (n_14 : Nat) (i : Nat), 4 - i < n_14 → (i ≤ 4) → ∀ (H : Heap) (locs : List Loc) (ls : Array Slot), PP G ([(ph, .inr (4, [.ref p1, .ref p2, .ref p3, .ref p5, .int (co), .int (nI (bi))])), (p1, .inl (cI G, 4, .inl (fun z9 => nI ((moS d t mo i) z9)))), (p2, .inl (cI G, 4, .inl (fun z9 => nI (ki z9)))), (p3, .inr (3, [.ref p4])), (p4, .inl (cI G, 64, .inl (fun z9 => iI ((prS d t pr i) z9)))), (p5, .inl (cI G, 64, .inl (fun z9 => iI ((dfS d t df i) z9)))), (h, .inr (6, [.ref a1, .ref a3, .ref a5, .ref a7, .ref a8, .int (nI (bu)), .int (nI (kd)), .int (nI (pi)), .int (nI (lc)), .int (nI (sb))])), (a1, .inr (3, [.ref a2])), (a2, .inl (cI G, 64, .inl (fun z9 => iI (d z9)))), (a3, .inr (3, [.ref a4])), (a4, .inl (cI G, 64, .inl (fun z9 => iI (t z9)))), (a5, .inr (3, [.ref a6])), (a6, .inl (cI G, 64, .inl (fun z9 => iI (r z9)))), (a7, .inl (cI G, 4, .inl (fun z9 => nI (k z9)))), (a8, .inl (cI G, 4, .inl (fun z9 => nI (o z9))))]) H → va_D A ([(ph, .inr (4, [.ref p1, .ref p2, .ref p3, .ref p5, .int (co), .int (nI (bi))])), (p1, .inl (cI G, 4, .inl (fun z9 => nI ((moS d t mo i) z9)))), (p2, .inl (cI G, 4, .inl (fun z9 => nI (ki z9)))), (p3, .inr (3, [.ref p4])), (p4, .inl (cI G, 64, .inl (fun z9 => iI ((prS d t pr i) z9)))), (p5, .inl (cI G, 64, .inl (fun z9 => iI ((dfS d t df i) z9)))), (h, .inr (6, [.ref a1, .ref a3, .ref a5, .ref a7, .ref a8, .int (nI (bu)), .int (nI (kd)), .int (nI (pi)), .int (nI (lc)), .int (nI (sb))])), (a1, .inr (3, [.ref a2])), (a2, .inl (cI G, 64, .inl (fun z9 => iI (d z9)))), (a3, .inr (3, [.ref a4])), (a4, .inl (cI G, 64, .inl (fun z9 => iI (t z9)))), (a5, .inr (3, [.ref a6])), (a6, .inl (cI G, 64, .inl (fun z9 => iI (r z9)))), (a7, .inl (cI G, 4, .inl (fun z9 => nI (k z9)))), (a8, .inl (cI G, 4, .inl (fun z9 => nI (o z9))))]) → va_S A s.heap H locs → lv_has ls 3 [(0, .ref ph), (1, .ref h), (2, .int (nI (i)))] → W pg l ev ({ frames := 3, cells := 0, slots := 0, locals := 77 } : Room) s m (([.ref ph, .ref h] : List Value).toArray) below meth c H locs 0 0 (MQ below (va_Qv (fun (u : Nat → Nat) => ∀ b, b < 4 → u b = kdW (moS d t mo 4 b) (LB (dfS d t df 4) b (COA (fun q9 => wbS (moS d t mo 4) (dfS d t df 4) q9 4) bu) 16)) (fun (u : Nat → Nat) t9 => PP G ([(ph, .inr (4, [.ref p1, .ref p2, .ref p3, .ref p5, .int (nI (COA (fun q9 => wbS (moS d t mo 4) (dfS d t df 4) q9 4) bu)), .int (nI (wbS (moS d t mo 4) (dfS d t df 4) (COA (fun q9 => wbS (moS d t mo 4) (dfS d t df 4) q9 4) bu) 4))])), (p1, .inl (cI G, 4, .inl (fun z9 => nI ((moS d t mo 4) z9)))), (p2, .inl (cI G, 4, .inl (fun z9 => nI (u z9)))), (p3, .inr (3, [.ref p4])), (p4, .inl (cI G, 64, .inl (fun z9 => iI ((prS d t pr 4) z9)))), (p5, .inl (cI G, 64, .inl (fun z9 => iI ((dfS d t df 4) z9)))), (h, .inr (6, [.ref a1, .ref a3, .ref a5, .ref a7, .ref a8, .int (nI (bu)), .int (nI (kd)), .int (nI (pi)), .int (nI (lc)), .int (nI (sb))])), (a1, .inr (3, [.ref a2])), (a2, .inl (cI G, 64, .inl (fun z9 => iI (d z9)))), (a3, .inr (3, [.ref a4])), (a4, .inl (cI G, 64, .inl (fun z9 => iI (t z9)))), (a5, .inr (3, [.ref a6])), (a6, .inl (cI G, 64, .inl (fun z9 => iI (r z9)))), (a7, .inl (cI G, 4, .inl (fun z9 => nI (k z9)))), (a8, .inl (cI G, 4, .inl (fun z9 => nI (o z9))))]) t9.heap) A) (([.ref ph, .ref h] : List Value).toArray) s 0 0 A) (F0 m 14 ls []) := by
      intro n_14
      induction n_14 with
      | zero => intro i hn; exact absurd hn (Nat.not_lt_zero _)
      | succ n_14 ih_14 =>
        intro i hn_14 hi H locs ls hP hD hS hl
        refine lv_iload_n hx hb dX5_foreseePicture_14 rfl (lv_at hl 2 rfl) ?_
        refine lv_iconst (v := nI (4)) hx hb dX5_foreseePicture_15 (by decide) ?_
        refine lv_icmp_ge (tgt := 36) hx hb dX5_foreseePicture_16 (by decide) (fun c_3 => ?_) (fun c_3 => ?_)
        · have f_4 : (4 : Int) ≤ ((i : Nat) : Int) := (c_le (nI_toInt (n := 4) (by omega)) (nI_toInt (n := i) (by omega))).mp c_3
          have e_i : i = 4 := by omega
          replace e_i := e_i.symm
          subst e_i
          have hdf4 := dfS_D hd ht hdf 4
          have hmo4 := moS_M (d := d) (t := t) hmo 4
          refine lv_aload_n hx hb dX5_foreseePicture_36 rfl (lv_at hl 0 rfl) ?_
          refine lv_iconst (v := nI (1)) hx hb dX5_foreseePicture_37 (by decide) ?_
          refine kMv (va_runV (As := [.int (nI (1))]) (rest := []) ⟨hx, hb, hml, hown, hts⟩ (c_X5_weighPicture ph p1 p2 p3 p4 p5 (moS d t mo 4) ki (prS d t pr 4) (dfS d t df 4) co bi 1 (by first | assumption | omega) (by first | assumption | omega) (by first | assumption | omega) (hP.sub [0, 1, 2, 3, 4, 5] rfl) ((hD.sub [0, 1, 2, 3, 4, 5] (by decide) rfl).weaken (fun _ _ _ h => hLo _ h))) (cwV 1 hts gX5_foreseePicture_X5_weighPicture rfl rfl rfl (by decide +kernel) ⟨Nat.le_of_ble_eq_true rfl, Nat.le_of_ble_eq_true rfl⟩) (preV hC hS hLo hP (ci := 4) (q0 := 0) rfl rfl) rfl rfl hl.1 rfl (lv_room (Nat.le_of_ble_eq_true rfl)) dX5_foreseePicture_38 ⟨Nat.zero_le _, Nat.zero_le _⟩) hP hD hS hA [0, 1, 2, 3, 4, 5] (by decide) rfl (fun _ => rfl) (fun u_5 H locs q_6 hP hD hS => ?_)
          have hP : PP G ([(ph, .inr (4, [.ref p1, .ref p2, .ref p3, .ref p5, .int (nI (1)), .int (nI (wbS (moS d t mo 4) (dfS d t df 4) 1 4))])), (p1, .inl (cI G, 4, .inl (fun z9 => nI ((moS d t mo 4) z9)))), (p2, .inl (cI G, 4, .inl (fun z9 => nI ((wkS (moS d t mo 4) (dfS d t df 4) 1 ki 4) z9)))), (p3, .inr (3, [.ref p4])), (p4, .inl (cI G, 64, .inl (fun z9 => iI ((prS d t pr 4) z9)))), (p5, .inl (cI G, 64, .inl (fun z9 => iI ((dfS d t df 4) z9)))), (h, .inr (6, [.ref a1, .ref a3, .ref a5, .ref a7, .ref a8, .int (nI (bu)), .int (nI (kd)), .int (nI (pi)), .int (nI (lc)), .int (nI (sb))])), (a1, .inr (3, [.ref a2])), (a2, .inl (cI G, 64, .inl (fun z9 => iI (d z9)))), (a3, .inr (3, [.ref a4])), (a4, .inl (cI G, 64, .inl (fun z9 => iI (t z9)))), (a5, .inr (3, [.ref a6])), (a6, .inl (cI G, 64, .inl (fun z9 => iI (r z9)))), (a7, .inl (cI G, 4, .inl (fun z9 => nI (k z9)))), (a8, .inl (cI G, 4, .inl (fun z9 => nI (o z9))))]) H := hP
          have hD : va_D A ([(ph, .inr (4, [.ref p1, .ref p2, .ref p3, .ref p5, .int (nI (1)), .int (nI (wbS (moS d t mo 4) (dfS d t df 4) 1 4))])), (p1, .inl (cI G, 4, .inl (fun z9 => nI ((moS d t mo 4) z9)))), (p2, .inl (cI G, 4, .inl (fun z9 => nI ((wkS (moS d t mo 4) (dfS d t df 4) 1 ki 4) z9)))), (p3, .inr (3, [.ref p4])), (p4, .inl (cI G, 64, .inl (fun z9 => iI ((prS d t pr 4) z9)))), (p5, .inl (cI G, 64, .inl (fun z9 => iI ((dfS d t df 4) z9)))), (h, .inr (6, [.ref a1, .ref a3, .ref a5, .ref a7, .ref a8, .int (nI (bu)), .int (nI (kd)), .int (nI (pi)), .int (nI (lc)), .int (nI (sb))])), (a1, .inr (3, [.ref a2])), (a2, .inl (cI G, 64, .inl (fun z9 => iI (d z9)))), (a3, .inr (3, [.ref a4])), (a4, .inl (cI G, 64, .inl (fun z9 => iI (t z9)))), (a5, .inr (3, [.ref a6])), (a6, .inl (cI G, 64, .inl (fun z9 => iI (r z9)))), (a7, .inl (cI G, 4, .inl (fun z9 => nI (k z9)))), (a8, .inl (cI G, 4, .inl (fun z9 => nI (o z9))))]) := hD
          refine lv_iconst (v := nI (2)) hx hb dX5_foreseePicture_41 (by decide) ?_
          refine lv_istore_n (lv' := [(2, .int (nI (2))), (0, .ref ph), (1, .ref h)]) hx hb dX5_foreseePicture_42 rfl hl (by decide) rfl (fun ls hl => ?_)
          have L_43 : ∀ (n_43 : Nat) (c9 : Nat) (kk : Nat → Nat), 8 - c9 < n_43 → (1 ≤ c9 ∧ c9 ≤ 8) → (cz (fun q9 => wbS (moS d t mo 4) (dfS d t df 4) q9 4) bu 7 1 = cz (fun q9 => wbS (moS d t mo 4) (dfS d t df 4) q9 4) bu (8 - c9) c9) → (∀ b, b < 4 → kk b = kdW (moS d t mo 4 b) (LB (dfS d t df 4) b c9 16)) → ∀ (H : Heap) (locs : List Loc) (ls : Array Slot), PP G ([(ph, .inr (4, [.ref p1, .ref p2, .ref p3, .ref p5, .int (nI (c9)), .int (nI (wbS (moS d t mo 4) (dfS d t df 4) c9 4))])), (p1, .inl (cI G, 4, .inl (fun z9 => nI ((moS d t mo 4) z9)))), (p2, .inl (cI G, 4, .inl (fun z9 => nI (kk z9)))), (p3, .inr (3, [.ref p4])), (p4, .inl (cI G, 64, .inl (fun z9 => iI ((prS d t pr 4) z9)))), (p5, .inl (cI G, 64, .inl (fun z9 => iI ((dfS d t df 4) z9)))), (h, .inr (6, [.ref a1, .ref a3, .ref a5, .ref a7, .ref a8, .int (nI (bu)), .int (nI (kd)), .int (nI (pi)), .int (nI (lc)), .int (nI (sb))])), (a1, .inr (3, [.ref a2])), (a2, .inl (cI G, 64, .inl (fun z9 => iI (d z9)))), (a3, .inr (3, [.ref a4])), (a4, .inl (cI G, 64, .inl (fun z9 => iI (t z9)))), (a5, .inr (3, [.ref a6])), (a6, .inl (cI G, 64, .inl (fun z9 => iI (r z9)))), (a7, .inl (cI G, 4, .inl (fun z9 => nI (k z9)))), (a8, .inl (cI G, 4, .inl (fun z9 => nI (o z9))))]) H → va_D A ([(ph, .inr (4, [.ref p1, .ref p2, .ref p3, .ref p5, .int (nI (c9)), .int (nI (wbS (moS d t mo 4) (dfS d t df 4) c9 4))])), (p1, .inl (cI G, 4, .inl (fun z9 => nI ((moS d t mo 4) z9)))), (p2, .inl (cI G, 4, .inl (fun z9 => nI (kk z9)))), (p3, .inr (3, [.ref p4])), (p4, .inl (cI G, 64, .inl (fun z9 => iI ((prS d t pr 4) z9)))), (p5, .inl (cI G, 64, .inl (fun z9 => iI ((dfS d t df 4) z9)))), (h, .inr (6, [.ref a1, .ref a3, .ref a5, .ref a7, .ref a8, .int (nI (bu)), .int (nI (kd)), .int (nI (pi)), .int (nI (lc)), .int (nI (sb))])), (a1, .inr (3, [.ref a2])), (a2, .inl (cI G, 64, .inl (fun z9 => iI (d z9)))), (a3, .inr (3, [.ref a4])), (a4, .inl (cI G, 64, .inl (fun z9 => iI (t z9)))), (a5, .inr (3, [.ref a6])), (a6, .inl (cI G, 64, .inl (fun z9 => iI (r z9)))), (a7, .inl (cI G, 4, .inl (fun z9 => nI (k z9)))), (a8, .inl (cI G, 4, .inl (fun z9 => nI (o z9))))]) → va_S A s.heap H locs → lv_has ls 3 [(0, .ref ph), (1, .ref h), (2, .int (nI (c9 + 1)))] → W pg l ev ({ frames := 3, cells := 0, slots := 0, locals := 77 } : Room) s m (([.ref ph, .ref h] : List Value).toArray) below meth c H locs 0 0 (MQ below (va_Qv (fun (u : Nat → Nat) => ∀ b, b < 4 → u b = kdW (moS d t mo 4 b) (LB (dfS d t df 4) b (COA (fun q9 => wbS (moS d t mo 4) (dfS d t df 4) q9 4) bu) 16)) (fun (u : Nat → Nat) t9 => PP G ([(ph, .inr (4, [.ref p1, .ref p2, .ref p3, .ref p5, .int (nI (COA (fun q9 => wbS (moS d t mo 4) (dfS d t df 4) q9 4) bu)), .int (nI (wbS (moS d t mo 4) (dfS d t df 4) (COA (fun q9 => wbS (moS d t mo 4) (dfS d t df 4) q9 4) bu) 4))])), (p1, .inl (cI G, 4, .inl (fun z9 => nI ((moS d t mo 4) z9)))), (p2, .inl (cI G, 4, .inl (fun z9 => nI (u z9)))), (p3, .inr (3, [.ref p4])), (p4, .inl (cI G, 64, .inl (fun z9 => iI ((prS d t pr 4) z9)))), (p5, .inl (cI G, 64, .inl (fun z9 => iI ((dfS d t df 4) z9)))), (h, .inr (6, [.ref a1, .ref a3, .ref a5, .ref a7, .ref a8, .int (nI (bu)), .int (nI (kd)), .int (nI (pi)), .int (nI (lc)), .int (nI (sb))])), (a1, .inr (3, [.ref a2])), (a2, .inl (cI G, 64, .inl (fun z9 => iI (d z9)))), (a3, .inr (3, [.ref a4])), (a4, .inl (cI G, 64, .inl (fun z9 => iI (t z9)))), (a5, .inr (3, [.ref a6])), (a6, .inl (cI G, 64, .inl (fun z9 => iI (r z9)))), (a7, .inl (cI G, 4, .inl (fun z9 => nI (k z9)))), (a8, .inl (cI G, 4, .inl (fun z9 => nI (o z9))))]) t9.heap) A) (([.ref ph, .ref h] : List Value).toArray) s 0 0 A) (F0 m 43 ls []) := by
            intro n_43
            induction n_43 with
            | zero => intro c9 kk hn; exact absurd hn (Nat.not_lt_zero _)
            | succ n_43 ih_43 =>
              intro c9 kk hn_43 hc hcz hkk H locs ls hP hD hS hl
              refine lv_iload_n hx hb dX5_foreseePicture_43 rfl (lv_at hl 2 rfl) ?_
              refine lv_bipush (v := nI (8)) hx hb dX5_foreseePicture_44 (by decide) ?_
              refine lv_icmp_gt (tgt := 71) hx hb dX5_foreseePicture_46 (by decide) (fun c_8 => ?_) (fun c_8 => ?_)
              · have f_9 : (8 : Int) < ((c9 + 1 : Nat) : Int) := (c_lt (nI_toInt (n := 8) (by omega)) (nI_toInt (n := c9 + 1) (by omega))).mp c_8
                rw [← show COA (fun q9 => wbS (moS d t mo 4) (dfS d t df 4) q9 4) bu = c9 from hcz.trans (by first | exact cz_e (by omega) | exact cz_x (by omega))] at hP
                exact xMv (G := G) (post := (fun (u : Nat → Nat) => ∀ b, b < 4 → u b = kdW (moS d t mo 4 b) (LB (dfS d t df 4) b (COA (fun q9 => wbS (moS d t mo 4) (dfS d t df 4) q9 4) bu) 16))) (w1 := (fun (u : Nat → Nat) => [(ph, .inr (4, [.ref p1, .ref p2, .ref p3, .ref p5, .int (nI (COA (fun q9 => wbS (moS d t mo 4) (dfS d t df 4) q9 4) bu)), .int (nI (wbS (moS d t mo 4) (dfS d t df 4) (COA (fun q9 => wbS (moS d t mo 4) (dfS d t df 4) q9 4) bu) 4))])), (p1, .inl (cI G, 4, .inl (fun z9 => nI ((moS d t mo 4) z9)))), (p2, .inl (cI G, 4, .inl (fun z9 => nI (u z9)))), (p3, .inr (3, [.ref p4])), (p4, .inl (cI G, 64, .inl (fun z9 => iI ((prS d t pr 4) z9)))), (p5, .inl (cI G, 64, .inl (fun z9 => iI ((dfS d t df 4) z9)))), (h, .inr (6, [.ref a1, .ref a3, .ref a5, .ref a7, .ref a8, .int (nI (bu)), .int (nI (kd)), .int (nI (pi)), .int (nI (lc)), .int (nI (sb))])), (a1, .inr (3, [.ref a2])), (a2, .inl (cI G, 64, .inl (fun z9 => iI (d z9)))), (a3, .inr (3, [.ref a4])), (a4, .inl (cI G, 64, .inl (fun z9 => iI (t z9)))), (a5, .inr (3, [.ref a6])), (a6, .inl (cI G, 64, .inl (fun z9 => iI (r z9)))), (a7, .inl (cI G, 4, .inl (fun z9 => nI (k z9)))), (a8, .inl (cI G, 4, .inl (fun z9 => nI (o z9))))])) (kk) hx hb hr hlocks hP hS (by exact (by rw [show COA (fun q9 => wbS (moS d t mo 4) (dfS d t df 4) q9 4) bu = c9 from hcz.trans (by first | exact cz_e (by omega) | exact cz_x (by omega))]; exact hkk)) dX5_foreseePicture_71
              · have f_10 : ¬ (8 : Int) < ((c9 + 1 : Nat) : Int) := fun z => c_8 ((c_lt (nI_toInt (n := 8) (by omega)) (nI_toInt (n := c9 + 1) (by omega))).mpr z)
                have hwb := wbS_le (moS d t mo 4) (dfS d t df 4) c9 4
                refine lv_aload_n hx hb dX5_foreseePicture_49 rfl (lv_at hl 0 rfl) ?_
                refine va_get (D := gD G) (cl := vwCl) (tys := tyl G) (ci := 4) (v := .int (nI (wbS (moS d t mo 4) (dfS d t df 4) c9 4))) (C := RX5) (T := TX5) (N := 6) hx hb hts (by decide +kernel) hown hC.K hP 0 rfl rfl 5 (by decide) (hts (.fieldLink RX5 32 "MotionPost$Plan" "bits" "I") (by decide +kernel)) (fun _ h9 => h9) rfl dX5_foreseePicture_50 ?_
                refine lv_aload_n hx hb dX5_foreseePicture_53 rfl (lv_at hl 1 rfl) ?_
                refine va_getN (D := gD G) (cl := vwCl) (tys := tyl G) (ci := 6) (v := .int (nI (bu))) (C := RX7) (T := TX7) (N := 10) (host := "MotionPost") (ref := "MotionPost$State") hx hb hts (by decide +kernel) hown hC.K hP 6 rfl rfl 5 (by decide) (hC.nestW 11 rfl rfl) (fun _ h9 => h9) rfl dX5_foreseePicture_54 ?_
                refine lv_icmp_le (tgt := 71) hx hb dX5_foreseePicture_57 (by decide) (fun c_11 => ?_) (fun c_11 => ?_)
                · have f_12 : ((wbS (moS d t mo 4) (dfS d t df 4) c9 4 : Nat) : Int) ≤ ((bu : Nat) : Int) := (c_le (nI_toInt (n := wbS (moS d t mo 4) (dfS d t df 4) c9 4) (by omega)) (nI_toInt (n := bu) (by omega))).mp c_11
                  rw [← show COA (fun q9 => wbS (moS d t mo 4) (dfS d t df 4) q9 4) bu = c9 from hcz.trans (by first | exact cz_e (by omega) | exact cz_x (by omega))] at hP
                  exact xMv (G := G) (post := (fun (u : Nat → Nat) => ∀ b, b < 4 → u b = kdW (moS d t mo 4 b) (LB (dfS d t df 4) b (COA (fun q9 => wbS (moS d t mo 4) (dfS d t df 4) q9 4) bu) 16))) (w1 := (fun (u : Nat → Nat) => [(ph, .inr (4, [.ref p1, .ref p2, .ref p3, .ref p5, .int (nI (COA (fun q9 => wbS (moS d t mo 4) (dfS d t df 4) q9 4) bu)), .int (nI (wbS (moS d t mo 4) (dfS d t df 4) (COA (fun q9 => wbS (moS d t mo 4) (dfS d t df 4) q9 4) bu) 4))])), (p1, .inl (cI G, 4, .inl (fun z9 => nI ((moS d t mo 4) z9)))), (p2, .inl (cI G, 4, .inl (fun z9 => nI (u z9)))), (p3, .inr (3, [.ref p4])), (p4, .inl (cI G, 64, .inl (fun z9 => iI ((prS d t pr 4) z9)))), (p5, .inl (cI G, 64, .inl (fun z9 => iI ((dfS d t df 4) z9)))), (h, .inr (6, [.ref a1, .ref a3, .ref a5, .ref a7, .ref a8, .int (nI (bu)), .int (nI (kd)), .int (nI (pi)), .int (nI (lc)), .int (nI (sb))])), (a1, .inr (3, [.ref a2])), (a2, .inl (cI G, 64, .inl (fun z9 => iI (d z9)))), (a3, .inr (3, [.ref a4])), (a4, .inl (cI G, 64, .inl (fun z9 => iI (t z9)))), (a5, .inr (3, [.ref a6])), (a6, .inl (cI G, 64, .inl (fun z9 => iI (r z9)))), (a7, .inl (cI G, 4, .inl (fun z9 => nI (k z9)))), (a8, .inl (cI G, 4, .inl (fun z9 => nI (o z9))))])) (kk) hx hb hr hlocks hP hS (by exact (by rw [show COA (fun q9 => wbS (moS d t mo 4) (dfS d t df 4) q9 4) bu = c9 from hcz.trans (by first | exact cz_e (by omega) | exact cz_x (by omega))]; exact hkk)) dX5_foreseePicture_71
                · have f_13 : ¬ ((wbS (moS d t mo 4) (dfS d t df 4) c9 4 : Nat) : Int) ≤ ((bu : Nat) : Int) := fun z => c_11 ((c_le (nI_toInt (n := wbS (moS d t mo 4) (dfS d t df 4) c9 4) (by omega)) (nI_toInt (n := bu) (by omega))).mpr z)
                  refine lv_aload_n hx hb dX5_foreseePicture_60 rfl (lv_at hl 0 rfl) ?_
                  refine lv_iload_n hx hb dX5_foreseePicture_61 rfl (lv_at hl 2 rfl) ?_
                  refine kMv (va_runV (As := [.int (nI (c9 + 1))]) (rest := []) ⟨hx, hb, hml, hown, hts⟩ (c_X5_weighPicture ph p1 p2 p3 p4 p5 (moS d t mo 4) kk (prS d t pr 4) (dfS d t df 4) (nI (c9)) (wbS (moS d t mo 4) (dfS d t df 4) c9 4) (c9 + 1) (by first | assumption | omega) (by first | assumption | omega) (by first | assumption | omega) (hP.sub [0, 1, 2, 3, 4, 5] rfl) ((hD.sub [0, 1, 2, 3, 4, 5] (by decide) rfl).weaken (fun _ _ _ h => hLo _ h))) (cwV 1 hts gX5_foreseePicture_X5_weighPicture rfl rfl rfl (by decide +kernel) ⟨Nat.le_of_ble_eq_true rfl, Nat.le_of_ble_eq_true rfl⟩) (preV hC hS hLo hP (ci := 4) (q0 := 0) rfl rfl) rfl rfl hl.1 rfl (lv_room (Nat.le_of_ble_eq_true rfl)) dX5_foreseePicture_62 ⟨Nat.zero_le _, Nat.zero_le _⟩) hP hD hS hA [0, 1, 2, 3, 4, 5] (by decide) rfl (fun _ => rfl) (fun u_14 H locs q_15 hP hD hS => ?_)
                  have hP : PP G ([(ph, .inr (4, [.ref p1, .ref p2, .ref p3, .ref p5, .int (nI ((c9 + 1))), .int (nI (wbS (moS d t mo 4) (dfS d t df 4) (c9 + 1) 4))])), (p1, .inl (cI G, 4, .inl (fun z9 => nI ((moS d t mo 4) z9)))), (p2, .inl (cI G, 4, .inl (fun z9 => nI ((wkS (moS d t mo 4) (dfS d t df 4) (c9 + 1) kk 4) z9)))), (p3, .inr (3, [.ref p4])), (p4, .inl (cI G, 64, .inl (fun z9 => iI ((prS d t pr 4) z9)))), (p5, .inl (cI G, 64, .inl (fun z9 => iI ((dfS d t df 4) z9)))), (h, .inr (6, [.ref a1, .ref a3, .ref a5, .ref a7, .ref a8, .int (nI (bu)), .int (nI (kd)), .int (nI (pi)), .int (nI (lc)), .int (nI (sb))])), (a1, .inr (3, [.ref a2])), (a2, .inl (cI G, 64, .inl (fun z9 => iI (d z9)))), (a3, .inr (3, [.ref a4])), (a4, .inl (cI G, 64, .inl (fun z9 => iI (t z9)))), (a5, .inr (3, [.ref a6])), (a6, .inl (cI G, 64, .inl (fun z9 => iI (r z9)))), (a7, .inl (cI G, 4, .inl (fun z9 => nI (k z9)))), (a8, .inl (cI G, 4, .inl (fun z9 => nI (o z9))))]) H := hP
                  have hD : va_D A ([(ph, .inr (4, [.ref p1, .ref p2, .ref p3, .ref p5, .int (nI ((c9 + 1))), .int (nI (wbS (moS d t mo 4) (dfS d t df 4) (c9 + 1) 4))])), (p1, .inl (cI G, 4, .inl (fun z9 => nI ((moS d t mo 4) z9)))), (p2, .inl (cI G, 4, .inl (fun z9 => nI ((wkS (moS d t mo 4) (dfS d t df 4) (c9 + 1) kk 4) z9)))), (p3, .inr (3, [.ref p4])), (p4, .inl (cI G, 64, .inl (fun z9 => iI ((prS d t pr 4) z9)))), (p5, .inl (cI G, 64, .inl (fun z9 => iI ((dfS d t df 4) z9)))), (h, .inr (6, [.ref a1, .ref a3, .ref a5, .ref a7, .ref a8, .int (nI (bu)), .int (nI (kd)), .int (nI (pi)), .int (nI (lc)), .int (nI (sb))])), (a1, .inr (3, [.ref a2])), (a2, .inl (cI G, 64, .inl (fun z9 => iI (d z9)))), (a3, .inr (3, [.ref a4])), (a4, .inl (cI G, 64, .inl (fun z9 => iI (t z9)))), (a5, .inr (3, [.ref a6])), (a6, .inl (cI G, 64, .inl (fun z9 => iI (r z9)))), (a7, .inl (cI G, 4, .inl (fun z9 => nI (k z9)))), (a8, .inl (cI G, 4, .inl (fun z9 => nI (o z9))))]) := hD
                  refine lv_iinc (v := nI ((c9 + 1) + 1)) (lv' := [(2, .int (nI ((c9 + 1) + 1))), (0, .ref ph), (1, .ref h)]) hx hb dX5_foreseePicture_65 hl (k := 2) rfl (inc_p (c9 + 1) 1) (by decide) rfl (fun ls hl => ?_)
                  refine lv_goto (tgt := 43) hx hb dX5_foreseePicture_68 (by decide) ?_
                  exact ih_43 (c9 + 1) (wkS (moS d t mo 4) (dfS d t df 4) (c9 + 1) kk 4) (by omega) (by omega) (hcz.trans (cz_s (by omega) (by omega))) (fun b hb => wkS_at _ _ _ _ 4 b hb) H locs ls hP hD hS (lv_sub hl [1, 2, 0] ((lvc rfl (lvc rfl (lvc rfl rfl)))))
          exact L_43 (7 + 1) 1 (wkS (moS d t mo 4) (dfS d t df 4) 1 ki 4) (Nat.lt_succ_self _) (by omega) rfl (fun b hb => wkS_at _ _ _ _ 4 b hb) H locs ls hP hD hS (lv_sub hl [1, 2, 0] (lvc rfl (lvc rfl (lvc (congrArg Value.int (rfl)) rfl))))
        · have f_17 : ¬ (4 : Int) ≤ ((i : Nat) : Int) := fun z => c_3 ((c_le (nI_toInt (n := 4) (by omega)) (nI_toInt (n := i) (by omega))).mpr z)
          refine lv_aload_n hx hb dX5_foreseePicture_19 rfl (lv_at hl 0 rfl) ?_
          refine lv_aload_n hx hb dX5_foreseePicture_20 rfl (lv_at hl 1 rfl) ?_
          refine lv_iload_n hx hb dX5_foreseePicture_21 rfl (lv_at hl 2 rfl) ?_
          refine lv_aload_n hx hb dX5_foreseePicture_22 rfl (lv_at hl 1 rfl) ?_
          refine lv_iload_n hx hb dX5_foreseePicture_23 rfl (lv_at hl 2 rfl) ?_
          have hbl := BEST_lt d t i
          refine kPi (va_runSN (As := [.ref h, .int (nI (i))]) (rest := [.int (nI (i)), .ref h, .ref ph]) ⟨hx, hb, hml, hown, hts⟩ (c_X3_bestByLooking h a1 a2 a3 a4 a5 a6 a7 a8 d t r k o bu kd pi lc sb i (by first | assumption | omega) (by first | assumption | omega) (by first | assumption | omega) (hP.sub [6, 7, 8, 9, 10, 11, 12, 13, 14] rfl)) ⟨va_cnB 2 hts gX5_foreseePicture_X3_bestByLooking_n44 rfl rfl rfl (hC.nest 37 rfl) (hts (.initialized RX3) (by decide +kernel)) (by decide +kernel) ⟨Nat.le_of_ble_eq_true rfl, Nat.le_of_ble_eq_true rfl⟩, (hts (.static yX3_bestByLooking) (by decide +kernel)), trivial⟩ (preS hC hS hLo) rfl rfl hl.1 rfl (lv_room (Nat.le_of_ble_eq_true rfl)) dX5_foreseePicture_24 ⟨Nat.zero_le _, Nat.zero_le _⟩) hS (fun locs hS => ?_)
          refine kMv (va_runV (As := [.ref h, .int (nI (i)), .int (nI (BEST d t i))]) (rest := []) ⟨hx, hb, hml, hown, hts⟩ (c_X5_foreseeBlock ph p1 p2 p3 p4 p5 (moS d t mo i) ki (prS d t pr i) (dfS d t df i) co bi h a1 a2 a3 a4 a5 a6 a7 a8 d t r k o bu kd pi lc sb i (BEST d t i) (by first | assumption | omega) (by first | assumption | omega) (hP.sub [0, 1, 2, 3, 4, 5, 6, 7, 8, 9, 10, 11, 12, 13, 14] rfl) ((hD.sub [0, 1, 2, 3, 4, 5, 6, 7, 8, 9, 10, 11, 12, 13, 14] (by decide) rfl).weaken (fun _ _ _ h => hLo _ h))) (cwV 3 hts gX5_foreseePicture_X5_foreseeBlock rfl rfl rfl (by decide +kernel) ⟨Nat.le_of_ble_eq_true rfl, Nat.le_of_ble_eq_true rfl⟩) (preV hC hS hLo hP (ci := 4) (q0 := 0) rfl rfl) rfl rfl hl.1 rfl (lv_room (Nat.le_of_ble_eq_true rfl)) dX5_foreseePicture_27 ⟨Nat.zero_le _, Nat.zero_le _⟩) hP hD hS hA [0, 1, 2, 3, 4, 5, 6, 7, 8, 9, 10, 11, 12, 13, 14] (by decide) rfl (fun _ => rfl) (fun u_18 H locs q_19 hP hD hS => ?_)
          have hP : PP G ([(ph, .inr (4, [.ref p1, .ref p2, .ref p3, .ref p5, .int (co), .int (nI (bi))])), (p1, .inl (cI G, 4, .inl (fun z9 => nI ((va_up (moS d t mo i) i (BEST d t i)) z9)))), (p2, .inl (cI G, 4, .inl (fun z9 => nI (ki z9)))), (p3, .inr (3, [.ref p4])), (p4, .inl (cI G, 64, .inl (fun z9 => iI ((fpS t i (BEST d t i) (prS d t pr i) 16) z9)))), (p5, .inl (cI G, 64, .inl (fun z9 => iI ((fdS d t i (BEST d t i) (dfS d t df i) 16) z9)))), (h, .inr (6, [.ref a1, .ref a3, .ref a5, .ref a7, .ref a8, .int (nI (bu)), .int (nI (kd)), .int (nI (pi)), .int (nI (lc)), .int (nI (sb))])), (a1, .inr (3, [.ref a2])), (a2, .inl (cI G, 64, .inl (fun z9 => iI (d z9)))), (a3, .inr (3, [.ref a4])), (a4, .inl (cI G, 64, .inl (fun z9 => iI (t z9)))), (a5, .inr (3, [.ref a6])), (a6, .inl (cI G, 64, .inl (fun z9 => iI (r z9)))), (a7, .inl (cI G, 4, .inl (fun z9 => nI (k z9)))), (a8, .inl (cI G, 4, .inl (fun z9 => nI (o z9))))]) H := hP
          have hD : va_D A ([(ph, .inr (4, [.ref p1, .ref p2, .ref p3, .ref p5, .int (co), .int (nI (bi))])), (p1, .inl (cI G, 4, .inl (fun z9 => nI ((va_up (moS d t mo i) i (BEST d t i)) z9)))), (p2, .inl (cI G, 4, .inl (fun z9 => nI (ki z9)))), (p3, .inr (3, [.ref p4])), (p4, .inl (cI G, 64, .inl (fun z9 => iI ((fpS t i (BEST d t i) (prS d t pr i) 16) z9)))), (p5, .inl (cI G, 64, .inl (fun z9 => iI ((fdS d t i (BEST d t i) (dfS d t df i) 16) z9)))), (h, .inr (6, [.ref a1, .ref a3, .ref a5, .ref a7, .ref a8, .int (nI (bu)), .int (nI (kd)), .int (nI (pi)), .int (nI (lc)), .int (nI (sb))])), (a1, .inr (3, [.ref a2])), (a2, .inl (cI G, 64, .inl (fun z9 => iI (d z9)))), (a3, .inr (3, [.ref a4])), (a4, .inl (cI G, 64, .inl (fun z9 => iI (t z9)))), (a5, .inr (3, [.ref a6])), (a6, .inl (cI G, 64, .inl (fun z9 => iI (r z9)))), (a7, .inl (cI G, 4, .inl (fun z9 => nI (k z9)))), (a8, .inl (cI G, 4, .inl (fun z9 => nI (o z9))))]) := hD
          refine lv_iinc (v := nI (i + 1)) (lv' := [(2, .int (nI (i + 1))), (0, .ref ph), (1, .ref h)]) hx hb dX5_foreseePicture_30 hl (k := 2) rfl (inc_p i 1) (by decide) rfl (fun ls hl => ?_)
          refine lv_goto (tgt := 14) hx hb dX5_foreseePicture_33 (by decide) ?_
          exact ih_14 (i + 1) (by omega) (by omega) H locs ls hP hD hS (lv_sub hl [1, 2, 0] ((lvc rfl (lvc rfl (lvc rfl rfl)))))
    exact L_14 (4 + 1) 0 (Nat.lt_succ_self _) (by omega) s.heap locs ls hP hD hS (lv_sub hl [1, 2, 0] (lvc rfl (lvc rfl (lvc rfl rfl))))
  · have f_21 : (pi % kd = 0) := Classical.byContradiction (fun z => c_1 (bI_0.mpr z))
    exact absurd f_21 hkey

set_option maxHeartbeats 4000000 in
set_option maxRecDepth 100000 in
theorem c_X0_writeBit {l : Launch} {G : GT} {H0 : Heap} (rh r1 : Nat) (g9 : Nat → Int32) (ln : Nat) (bt : Int32) (hln : ln < 166) (hP0 : PP G ([(rh, .inr (0, [.ref r1, .int (nI (ln))])), (r1, .inl (cZ G, 166, .inl (g9)))]) H0) (hB0 : va_D (lo G) ([(rh, .inr (0, [.ref r1, .int (nI (ln))])), (r1, .inl (cZ G, 166, .inl (g9)))])) : Met l yX0_writeBit wsX0_writeBit ({ frames := 0, cells := 0, slots := 0, locals := 0 } : Room) (pcG G [.ref rh, .int (bt)] H0) (qMv G (fun (u : Unit) => u = ()) (fun (u : Unit) => [(rh, .inr (0, [.ref r1, .int (nI (ln + 1))])), (r1, .inl (cZ G, 166, .inl (upd g9 ln (vp_nar .boolean bt))))]) ([(rh, .inr (0, [.ref r1, .int (nI (ln))])), (r1, .inl (cZ G, 166, .inl (g9)))]) H0) 0 0 (va_A ([(rh, .inr (0, [.ref r1, .int (nI (ln))])), (r1, .inl (cZ G, 166, .inl (g9)))]) H0.size) := by
  refine enter (cc := cX0_writeBit) (maxL := 2) (ret := none) (own := RX0) (lv := [(0, .ref rh), (1, .int (bt))]) (by decide) rfl rfl rfl (Nat.le_of_ble_eq_true rfl) ?_
  intro pg ev s m below meth c hx hb hr hts hown hlocks hml hnm hH hC ls hl
  subst hH
  have hLo := va_freeB hB0 hC.2.2.2.1
  have hD := hB0.self (sz := s.heap.size)
  have hS : va_S (va_A ([(rh, .inr (0, [.ref r1, .int (nI (ln))])), (r1, .inl (cZ G, 166, .inl (g9)))]) s.heap.size) s.heap s.heap [] := va_S.rf
  unfold qMv
  generalize hAe : va_A ([(rh, .inr (0, [.ref r1, .int (nI (ln))])), (r1, .inl (cZ G, 166, .inl (g9)))]) s.heap.size = A at hD hLo hS ⊢
  have hA : ∀ q, s.heap.size ≤ q → A q := fun q h => by rw [← hAe]; exact Or.inr h
  generalize ([] : List Loc) = locs at hS ⊢
  have hP := hP0
  refine lv_aload_n hx hb dX0_writeBit_0 rfl (lv_at hl 0 rfl) ?_
  refine va_get (D := gD G) (cl := vwCl) (tys := tyl G) (ci := 0) (v := .int (nI (ln))) (C := RX0) (T := TX0) (N := 2) hx hb hts (by decide +kernel) hown hC.K hP 0 rfl rfl 1 (by decide) (hts (.fieldLink RX0 15 "MotionPost$BitRow" "length" "I") (by decide +kernel)) (fun _ h9 => h9) rfl dX0_writeBit_1 ?_
  refine lv_aload_n hx hb dX0_writeBit_4 rfl (lv_at hl 0 rfl) ?_
  refine va_get (D := gD G) (cl := vwCl) (tys := tyl G) (ci := 0) (v := .ref r1) (C := RX0) (T := TX0) (N := 2) hx hb hts (by decide +kernel) hown hC.K hP 0 rfl rfl 0 (by decide) (hts (.fieldLink RX0 9 "MotionPost$BitRow" "bits" "[Z") (by decide +kernel)) (fun _ h9 => h9) rfl dX0_writeBit_5 ?_
  refine va_alen (D := gD G) (cl := vwCl) (tys := tyl G) (v := nI (166)) hx hb hC.K hP 1 1 rfl rfl rfl dX0_writeBit_8 ?_
  refine lv_icmp_ge (tgt := 32) hx hb dX0_writeBit_9 (by decide) (fun c_1 => ?_) (fun c_1 => ?_)
  · have f_2 : (166 : Int) ≤ ((ln : Nat) : Int) := (c_le (nI_toInt (n := 166) (by omega)) (nI_toInt (n := ln) (by omega))).mp c_1
    exfalso; omega
  · have f_3 : ¬ (166 : Int) ≤ ((ln : Nat) : Int) := fun z => c_1 ((c_le (nI_toInt (n := 166) (by omega)) (nI_toInt (n := ln) (by omega))).mpr z)
    refine lv_aload_n hx hb dX0_writeBit_12 rfl (lv_at hl 0 rfl) ?_
    refine va_get (D := gD G) (cl := vwCl) (tys := tyl G) (ci := 0) (v := .ref r1) (C := RX0) (T := TX0) (N := 2) hx hb hts (by decide +kernel) hown hC.K hP 0 rfl rfl 0 (by decide) (hts (.fieldLink RX0 9 "MotionPost$BitRow" "bits" "[Z") (by decide +kernel)) (fun _ h9 => h9) rfl dX0_writeBit_13 ?_
    refine lv_aload_n hx hb dX0_writeBit_16 rfl (lv_at hl 0 rfl) ?_
    refine va_get (D := gD G) (cl := vwCl) (tys := tyl G) (ci := 0) (v := .int (nI (ln))) (C := RX0) (T := TX0) (N := 2) hx hb hts (by decide +kernel) hown hC.K hP 0 rfl rfl 1 (by decide) (hts (.fieldLink RX0 15 "MotionPost$BitRow" "length" "I") (by decide +kernel)) (fun _ h9 => h9) rfl dX0_writeBit_17 ?_
    refine lv_iload_n hx hb dX0_writeBit_20 rfl (lv_at hl 1 rfl) ?_
    refine gZast (j := ln) (f' := upd g9 ln (vp_nar .boolean bt)) hx hb hC.K hP hD hS 1 1 rfl rfl (rfl) (by omega) (by decide) (rfl) dX0_writeBit_21 (fun H locs hP hD hS => ?_)
    have hP : PP G ([(rh, .inr (0, [.ref r1, .int (nI (ln))])), (r1, .inl (cZ G, 166, .inl (upd g9 ln (vp_nar .boolean bt))))]) H := hP
    have hD : va_D A ([(rh, .inr (0, [.ref r1, .int (nI (ln))])), (r1, .inl (cZ G, 166, .inl (upd g9 ln (vp_nar .boolean bt))))]) := hD
    refine lv_aload_n hx hb dX0_writeBit_22 rfl (lv_at hl 0 rfl) ?_
    refine lv_dup hx hb dX0_writeBit_23 rfl ?_
    refine va_get (D := gD G) (cl := vwCl) (tys := tyl G) (ci := 0) (v := .int (nI (ln))) (C := RX0) (T := TX0) (N := 2) hx hb hts (by decide +kernel) hown hC.K hP 0 rfl rfl 1 (by decide) (hts (.fieldLink RX0 15 "MotionPost$BitRow" "length" "I") (by decide +kernel)) (fun _ h9 => h9) rfl dX0_writeBit_24 ?_
    refine lv_iconst (v := nI (1)) hx hb dX0_writeBit_27 (by decide) ?_
    refine gAdd (z := nI (ln + 1)) hx hb dX0_writeBit_28 (nI_add _ _) ?_
    refine va_put (D := gD G) (cl := vwCl) (tys := tyl G) (ci := 0) (v := .int (nI (ln + 1))) (ty := .int) (C := RX0) (T := TX0) (N := 2) hx hb hts (by decide +kernel) tyX0 tyX0_ok nmX0 hown hC.K hP hD hS 0 rfl rfl 1 (by decide) (hts (.fieldLink RX0 15 "MotionPost$BitRow" "length" "I") (by decide +kernel)) (fun _ h9 => h9) rfl (by decide +kernel) (rfl) rfl (Nat.le_of_ble_eq_true rfl) dX0_writeBit_29 (fun H locs hP hD hS => ?_)
    have hP : PP G ([(rh, .inr (0, [.ref r1, .int (nI (ln + 1))])), (r1, .inl (cZ G, 166, .inl (upd g9 ln (vp_nar .boolean bt))))]) H := hP
    have hD : va_D A ([(rh, .inr (0, [.ref r1, .int (nI (ln + 1))])), (r1, .inl (cZ G, 166, .inl (upd g9 ln (vp_nar .boolean bt))))]) := hD
    exact xMv (G := G) (post := (fun (u : Unit) => u = ())) (w1 := (fun (u : Unit) => [(rh, .inr (0, [.ref r1, .int (nI (ln + 1))])), (r1, .inl (cZ G, 166, .inl (upd g9 ln (vp_nar .boolean bt))))])) (()) hx hb hr hlocks hP hS (by exact rfl) dX0_writeBit_32

set_option maxHeartbeats 4000000 in
set_option maxRecDepth 100000 in
theorem c_X0_writeNumber {l : Launch} {G : GT} {H0 : Heap} (rh r1 : Nat) (g9 : Nat → Int32) (ln : Nat) (nb : Int32) (dg : Nat) (hln : ln + dg ≤ 166) (hP0 : PP G ([(rh, .inr (0, [.ref r1, .int (nI (ln))])), (r1, .inl (cZ G, 166, .inl (g9)))]) H0) (hB0 : va_D (lo G) ([(rh, .inr (0, [.ref r1, .int (nI (ln))])), (r1, .inl (cZ G, 166, .inl (g9)))])) : Met l yX0_writeNumber wsX0_writeNumber ({ frames := 1, cells := 0, slots := 0, locals := 21 } : Room) (pcG G [.ref rh, .int (nb), .int (nI (dg))] H0) (qMv G (fun (u : Nat → Int32) => True) (fun (u : Nat → Int32) => [(rh, .inr (0, [.ref r1, .int (nI (ln + dg))])), (r1, .inl (cZ G, 166, .inl (u)))]) ([(rh, .inr (0, [.ref r1, .int (nI (ln))])), (r1, .inl (cZ G, 166, .inl (g9)))]) H0) 0 0 (va_A ([(rh, .inr (0, [.ref r1, .int (nI (ln))])), (r1, .inl (cZ G, 166, .inl (g9)))]) H0.size) := by
  refine enter (cc := cX0_writeNumber) (maxL := 4) (ret := none) (own := RX0) (lv := [(0, .ref rh), (1, .int (nb)), (2, .int (nI (dg)))]) (by decide) rfl rfl rfl (Nat.le_of_ble_eq_true rfl) ?_
  intro pg ev s m below meth c hx hb hr hts hown hlocks hml hnm hH hC ls hl
  subst hH
  have hLo := va_freeB hB0 hC.2.2.2.1
  have hD := hB0.self (sz := s.heap.size)
  have hS : va_S (va_A ([(rh, .inr (0, [.ref r1, .int (nI (ln))])), (r1, .inl (cZ G, 166, .inl (g9)))]) s.heap.size) s.heap s.heap [] := va_S.rf
  unfold qMv
  generalize hAe : va_A ([(rh, .inr (0, [.ref r1, .int (nI (ln))])), (r1, .inl (cZ G, 166, .inl (g9)))]) s.heap.size = A at hD hLo hS ⊢
  have hA : ∀ q, s.heap.size ≤ q → A q := fun q h => by rw [← hAe]; exact Or.inr h
  generalize ([] : List Loc) = locs at hS ⊢
  have hP := hP0
  refine lv_iload_n hx hb dX0_writeNumber_0 rfl (lv_at hl 2 rfl) ?_
  refine lv_iconst (v := nI (1)) hx hb dX0_writeNumber_1 (by decide) ?_
  refine gSub (z := iI (((dg : Nat) : Int) - (1 : Int))) hx hb dX0_writeNumber_2 (z_sub (nI_i (dg)) (nI_i (1))) ?_
  refine lv_istore_n (lv' := [(3, .int (iI (((dg : Nat) : Int) - (1 : Int)))), (0, .ref rh), (1, .int (nb)), (2, .int (nI (dg)))]) hx hb dX0_writeNumber_3 rfl hl (by decide) rfl (fun ls hl => ?_)
  have L_4 : ∀ (n_4 : Nat) (i : Nat) (gg : Nat → Int32), dg - i < n_4 → (i ≤ dg) → ∀ (H : Heap) (locs : List Loc) (ls : Array Slot), PP G ([(rh, .inr (0, [.ref r1, .int (nI (ln + i))])), (r1, .inl (cZ G, 166, .inl (gg)))]) H → va_D A ([(rh, .inr (0, [.ref r1, .int (nI (ln + i))])), (r1, .inl (cZ G, 166, .inl (gg)))]) → va_S A s.heap H locs → lv_has ls 4 [(0, .ref rh), (1, .int (nb)), (2, .int (nI (dg))), (3, .int (iI (((dg - i : Nat) : Int) - 1)))] → W pg l ev ({ frames := 1, cells := 0, slots := 0, locals := 21 } : Room) s m (([.ref rh, .int (nb), .int (nI (dg))] : List Value).toArray) below meth c H locs 0 0 (MQ below (va_Qv (fun (u : Nat → Int32) => True) (fun (u : Nat → Int32) t9 => PP G ([(rh, .inr (0, [.ref r1, .int (nI (ln + dg))])), (r1, .inl (cZ G, 166, .inl (u)))]) t9.heap) A) (([.ref rh, .int (nb), .int (nI (dg))] : List Value).toArray) s 0 0 A) (F0 m 4 ls []) := by
    intro n_4
    induction n_4 with
    | zero => intro i gg hn; exact absurd hn (Nat.not_lt_zero _)
    | succ n_4 ih_4 =>
      intro i gg hn_4 hi H locs ls hP hD hS hl
      refine lv_iload_n hx hb dX0_writeNumber_4 rfl (lv_at hl 3 rfl) ?_
      refine lv_if_lt (tgt := 32) hx hb dX0_writeNumber_5 (by decide) (fun c_1 => ?_) (fun c_1 => ?_)
      · have f_2 : (((dg - i : Nat) : Int) - 1) < (0 : Int) := (c_lt (iI_toInt (by omega) (by omega)) rfl).mp c_1
        have e_i : i = dg := by omega
        replace e_i := e_i.symm
        subst e_i
        exact xMv (G := G) (post := (fun (u : Nat → Int32) => True)) (w1 := (fun (u : Nat → Int32) => [(rh, .inr (0, [.ref r1, .int (nI (ln + dg))])), (r1, .inl (cZ G, 166, .inl (u)))])) (gg) hx hb hr hlocks hP hS (by exact trivial) dX0_writeNumber_32
      · have f_3 : ¬ (((dg - i : Nat) : Int) - 1) < (0 : Int) := fun z => c_1 ((c_lt (iI_toInt (by omega) (by omega)) rfl).mpr z)
        refine lv_aload_n hx hb dX0_writeNumber_8 rfl (lv_at hl 0 rfl) ?_
        refine lv_iload_n hx hb dX0_writeNumber_9 rfl (lv_at hl 1 rfl) ?_
        refine lv_iload_n hx hb dX0_writeNumber_10 rfl (lv_at hl 3 rfl) ?_
        refine g_ishr (z := nb >>> ((iI (((dg - i : Nat) : Int) - 1)) &&& 31)) hx hb dX0_writeNumber_11 (rfl) ?_
        refine lv_iconst (v := nI (1)) hx hb dX0_writeNumber_12 (by decide) ?_
        refine g_iand (z := (nb >>> ((iI (((dg - i : Nat) : Int) - 1)) &&& 31)) &&& (nI (1))) hx hb dX0_writeNumber_13 (rfl) ?_
        refine lv_iconst (v := nI (1)) hx hb dX0_writeNumber_14 (by decide) ?_
        refine lv_icmp_ne (tgt := 22) hx hb dX0_writeNumber_15 (by decide) (fun c_4 => ?_) (fun c_4 => ?_)
        · have f_5 : ¬ Int32.toInt ((nb >>> ((iI (((dg - i : Nat) : Int) - 1)) &&& 31)) &&& (nI (1))) = (1 : Int) := fun z => c_4 ((c_eq rfl (nI_toInt (n := 1) (by omega))).mpr z)
          refine lv_iconst (v := nI (0)) hx hb dX0_writeNumber_22 (by decide) ?_
          refine kMv (va_runV (As := [.int (nI (0))]) (rest := []) ⟨hx, hb, hml, hown, hts⟩ (c_X0_writeBit rh r1 gg (ln + i) (nI (0)) (by first | assumption | omega) (hP.sub [0, 1] rfl) ((hD.sub [0, 1] (by decide) rfl).weaken (fun _ _ _ h => hLo _ h))) (cwV 1 hts gX0_writeNumber_X0_writeBit rfl rfl rfl (by decide +kernel) ⟨Nat.le_of_ble_eq_true rfl, Nat.le_of_ble_eq_true rfl⟩) (preV hC hS hLo hP (ci := 0) (q0 := 0) rfl rfl) rfl rfl hl.1 rfl (lv_room (Nat.le_of_ble_eq_true rfl)) dX0_writeNumber_23 ⟨Nat.zero_le _, Nat.zero_le _⟩) hP hD hS hA [0, 1] (by decide) rfl (fun _ => rfl) (fun u_6 H locs q_7 hP hD hS => ?_)
          have hP : PP G ([(rh, .inr (0, [.ref r1, .int (nI ((ln + i) + 1))])), (r1, .inl (cZ G, 166, .inl (upd gg (ln + i) (vp_nar .boolean (nI (0))))))]) H := hP
          have hD : va_D A ([(rh, .inr (0, [.ref r1, .int (nI ((ln + i) + 1))])), (r1, .inl (cZ G, 166, .inl (upd gg (ln + i) (vp_nar .boolean (nI (0))))))]) := hD
          refine lv_iinc (v := iI ((((dg - i : Nat) : Int) - 1) + (-1))) (lv' := [(3, .int (iI ((((dg - i : Nat) : Int) - 1) + (-1)))), (0, .ref rh), (1, .int (nb)), (2, .int (nI (dg)))]) hx hb dX0_writeNumber_26 hl (k := 3) rfl (inc_z (((dg - i : Nat) : Int) - 1) (-1)) (by decide) rfl (fun ls hl => ?_)
          refine lv_goto (tgt := 4) hx hb dX0_writeNumber_29 (by decide) ?_
          exact ih_4 (i + 1) (upd gg (ln + i) (vp_nar .boolean (nI (0)))) (by omega) (by omega) H locs ls hP hD hS (lv_sub hl [1, 2, 3, 0] ((lvc rfl (lvc rfl (lvc rfl (lvc (congrArg Value.int (congrArg iI (by omega))) rfl))))))
        · have f_9 : Int32.toInt ((nb >>> ((iI (((dg - i : Nat) : Int) - 1)) &&& 31)) &&& (nI (1))) = (1 : Int) := (c_eq rfl (nI_toInt (n := 1) (by omega))).mp c_4
          refine lv_iconst (v := nI (1)) hx hb dX0_writeNumber_18 (by decide) ?_
          refine lv_goto (tgt := 23) hx hb dX0_writeNumber_19 (by decide) ?_
          refine kMv (va_runV (As := [.int (nI (1))]) (rest := []) ⟨hx, hb, hml, hown, hts⟩ (c_X0_writeBit rh r1 gg (ln + i) (nI (1)) (by first | assumption | omega) (hP.sub [0, 1] rfl) ((hD.sub [0, 1] (by decide) rfl).weaken (fun _ _ _ h => hLo _ h))) (cwV 1 hts gX0_writeNumber_X0_writeBit rfl rfl rfl (by decide +kernel) ⟨Nat.le_of_ble_eq_true rfl, Nat.le_of_ble_eq_true rfl⟩) (preV hC hS hLo hP (ci := 0) (q0 := 0) rfl rfl) rfl rfl hl.1 rfl (lv_room (Nat.le_of_ble_eq_true rfl)) dX0_writeNumber_23 ⟨Nat.zero_le _, Nat.zero_le _⟩) hP hD hS hA [0, 1] (by decide) rfl (fun _ => rfl) (fun u_10 H locs q_11 hP hD hS => ?_)
          have hP : PP G ([(rh, .inr (0, [.ref r1, .int (nI ((ln + i) + 1))])), (r1, .inl (cZ G, 166, .inl (upd gg (ln + i) (vp_nar .boolean (nI (1))))))]) H := hP
          have hD : va_D A ([(rh, .inr (0, [.ref r1, .int (nI ((ln + i) + 1))])), (r1, .inl (cZ G, 166, .inl (upd gg (ln + i) (vp_nar .boolean (nI (1))))))]) := hD
          refine lv_iinc (v := iI ((((dg - i : Nat) : Int) - 1) + (-1))) (lv' := [(3, .int (iI ((((dg - i : Nat) : Int) - 1) + (-1)))), (0, .ref rh), (1, .int (nb)), (2, .int (nI (dg)))]) hx hb dX0_writeNumber_26 hl (k := 3) rfl (inc_z (((dg - i : Nat) : Int) - 1) (-1)) (by decide) rfl (fun ls hl => ?_)
          refine lv_goto (tgt := 4) hx hb dX0_writeNumber_29 (by decide) ?_
          exact ih_4 (i + 1) (upd gg (ln + i) (vp_nar .boolean (nI (1)))) (by omega) (by omega) H locs ls hP hD hS (lv_sub hl [1, 2, 3, 0] ((lvc rfl (lvc rfl (lvc rfl (lvc (congrArg Value.int (congrArg iI (by omega))) rfl))))))
  exact L_4 (dg + 1) 0 g9 (Nat.lt_succ_self _) (by omega) s.heap locs ls hP hD hS (lv_sub hl [1, 2, 3, 0] (lvc rfl (lvc rfl (lvc rfl (lvc (congrArg Value.int (congrArg iI (by omega))) rfl)))))

set_option maxHeartbeats 4000000 in
set_option maxRecDepth 100000 in
theorem c_X0_writeLevel {l : Launch} {G : GT} {H0 : Heap} (rh r1 : Nat) (g9 : Nat → Int32) (ln : Nat) (z : Int) (hz : -15 ≤ z ∧ z ≤ 15) (hln : ln + 10 ≤ 166) (hP0 : PP G ([(rh, .inr (0, [.ref r1, .int (nI (ln))])), (r1, .inl (cZ G, 166, .inl (g9)))]) H0) (hB0 : va_D (lo G) ([(rh, .inr (0, [.ref r1, .int (nI (ln))])), (r1, .inl (cZ G, 166, .inl (g9)))])) : Met l yX0_writeLevel wsX0_writeLevel ({ frames := 2, cells := 0, slots := 0, locals := 44 } : Room) (pcG G [.ref rh, .int (iI (z))] H0) (qMv G (fun (u : Nat → Int32) => True) (fun (u : Nat → Int32) => [(rh, .inr (0, [.ref r1, .int (nI (ln + lbits z))])), (r1, .inl (cZ G, 166, .inl (u)))]) ([(rh, .inr (0, [.ref r1, .int (nI (ln))])), (r1, .inl (cZ G, 166, .inl (g9)))]) H0) 0 0 (va_A ([(rh, .inr (0, [.ref r1, .int (nI (ln))])), (r1, .inl (cZ G, 166, .inl (g9)))]) H0.size) := by
  refine enter (cc := cX0_writeLevel) (maxL := 5) (ret := none) (own := RX0) (lv := [(0, .ref rh), (1, .int (iI (z)))]) (by decide) rfl rfl rfl (Nat.le_of_ble_eq_true rfl) ?_
  intro pg ev s m below meth c hx hb hr hts hown hlocks hml hnm hH hC ls hl
  subst hH
  have hLo := va_freeB hB0 hC.2.2.2.1
  have hD := hB0.self (sz := s.heap.size)
  have hS : va_S (va_A ([(rh, .inr (0, [.ref r1, .int (nI (ln))])), (r1, .inl (cZ G, 166, .inl (g9)))]) s.heap.size) s.heap s.heap [] := va_S.rf
  unfold qMv
  generalize hAe : va_A ([(rh, .inr (0, [.ref r1, .int (nI (ln))])), (r1, .inl (cZ G, 166, .inl (g9)))]) s.heap.size = A at hD hLo hS ⊢
  have hA : ∀ q, s.heap.size ≤ q → A q := fun q h => by rw [← hAe]; exact Or.inr h
  generalize ([] : List Loc) = locs at hS ⊢
  have hP := hP0
  refine lv_iload_n hx hb dX0_writeLevel_0 rfl (lv_at hl 1 rfl) ?_
  refine va_mabs hx hb (hml.trans hl.1.symm) hown (hts (.methodLink RX0 49 Lib.Math.abs.name) (by decide +kernel)) (hts (.static Lib.Math.abs.name) (by decide +kernel)) (hts (.initialized "java/lang/Math") (by decide +kernel)) (hts (.code Lib.Math.abs.name Lib.Math.abs.code 1 (some .int)) (by decide +kernel)) (Nat.le_of_ble_eq_true rfl) (Nat.le_of_ble_eq_true rfl) (Nat.zero_le _) (Nat.zero_le _) dX0_writeLevel_1 ?_
  refine topE (v' := iI ((Int.natAbs z : Int))) (ab_z (by omega) (by omega)) ?_
  refine lv_iconst (v := nI (1)) hx hb dX0_writeLevel_4 (by decide) ?_
  refine gAdd (z := nI (z.natAbs + 1)) hx hb dX0_writeLevel_5 ((z_add rfl (nI_i 1)).trans (z_abs1 z)) ?_
  refine lv_istore_n (lv' := [(2, .int (nI (z.natAbs + 1))), (0, .ref rh), (1, .int (iI (z)))]) hx hb dX0_writeLevel_6 rfl hl (by decide) rfl (fun ls hl => ?_)
  refine lv_iconst (v := nI (0)) hx hb dX0_writeLevel_7 (by decide) ?_
  refine lv_istore_n (lv' := [(3, .int (nI (0))), (2, .int (nI (z.natAbs + 1))), (0, .ref rh), (1, .int (iI (z)))]) hx hb dX0_writeLevel_8 rfl hl (by decide) rfl (fun ls hl => ?_)
  refine lv_iload_n hx hb dX0_writeLevel_9 rfl (lv_at hl 1 rfl) ?_
  refine lv_istore (lv' := [(4, .int (nI (z.natAbs + 1))), (3, .int (nI (0))), (2, .int (nI (z.natAbs + 1))), (0, .ref rh), (1, .int (iI (z)))]) hx hb dX0_writeLevel_10 hl (by decide) rfl (fun ls hl => ?_)
  have hl4 := log2_16 (n := z.natAbs + 1) (by omega)
  have L_12 : ∀ (n_12 : Nat) (hv n : Nat), n < n_12 → (hv + Nat.log2 n = Nat.log2 (z.natAbs + 1)) → (n ≤ 16) → ∀ (locs : List Loc) (ls : Array Slot), va_S A s.heap s.heap locs → lv_has ls 5 [(0, .ref rh), (1, .int (iI (z))), (2, .int (nI (z.natAbs + 1))), (3, .int (nI (hv))), (4, .int (nI (n)))] → W pg l ev ({ frames := 2, cells := 0, slots := 0, locals := 44 } : Room) s m (([.ref rh, .int (iI (z))] : List Value).toArray) below meth c s.heap locs 0 0 (MQ below (va_Qv (fun (u : Nat → Int32) => True) (fun (u : Nat → Int32) t9 => PP G ([(rh, .inr (0, [.ref r1, .int (nI (ln + lbits z))])), (r1, .inl (cZ G, 166, .inl (u)))]) t9.heap) A) (([.ref rh, .int (iI (z))] : List Value).toArray) s 0 0 A) (F0 m 12 ls []) := by
    intro n_12
    induction n_12 with
    | zero => intro hv n hn; exact absurd hn (Nat.not_lt_zero _)
    | succ n_12 ih_12 =>
      intro hv n hn_12 hs hn locs ls hS hl
      refine lv_iload hx hb dX0_writeLevel_12 (lv_at hl 4 rfl) ?_
      refine lv_iconst (v := nI (1)) hx hb dX0_writeLevel_14 (by decide) ?_
      refine lv_icmp_le (tgt := 30) hx hb dX0_writeLevel_15 (by decide) (fun c_1 => ?_) (fun c_1 => ?_)
      · have f_2 : ((n : Nat) : Int) ≤ (1 : Int) := (c_le (nI_toInt (n := n) (by omega)) (nI_toInt (n := 1) (by omega))).mp c_1
        have hl1 := log2_one (n := n) (by omega)
        refine lv_aload_n hx hb dX0_writeLevel_30 rfl (lv_at hl 0 rfl) ?_
        refine lv_iconst (v := nI (0)) hx hb dX0_writeLevel_31 (by decide) ?_
        refine lv_iload_n hx hb dX0_writeLevel_32 rfl (lv_at hl 3 rfl) ?_
        refine kMv (va_runV (As := [.int (nI (0)), .int (nI (hv))]) (rest := []) ⟨hx, hb, hml, hown, hts⟩ (c_X0_writeNumber rh r1 g9 ln (nI (0)) hv (by first | assumption | omega) (hP.sub [0, 1] rfl) ((hD.sub [0, 1] (by decide) rfl).weaken (fun _ _ _ h => hLo _ h))) (cwV 2 hts gX0_writeLevel_X0_writeNumber rfl rfl rfl (by decide +kernel) ⟨Nat.le_of_ble_eq_true rfl, Nat.le_of_ble_eq_true rfl⟩) (preV hC hS hLo hP (ci := 0) (q0 := 0) rfl rfl) rfl rfl hl.1 rfl (lv_room (Nat.le_of_ble_eq_true rfl)) dX0_writeLevel_33 ⟨Nat.zero_le _, Nat.zero_le _⟩) hP hD hS hA [0, 1] (by decide) rfl (fun _ => rfl) (fun u_3 H locs q_4 hP hD hS => ?_)
        have hP : PP G ([(rh, .inr (0, [.ref r1, .int (nI (ln + hv))])), (r1, .inl (cZ G, 166, .inl (u_3)))]) H := hP
        have hD : va_D A ([(rh, .inr (0, [.ref r1, .int (nI (ln + hv))])), (r1, .inl (cZ G, 166, .inl (u_3)))]) := hD
        refine lv_aload_n hx hb dX0_writeLevel_36 rfl (lv_at hl 0 rfl) ?_
        refine lv_iload_n hx hb dX0_writeLevel_37 rfl (lv_at hl 2 rfl) ?_
        refine lv_iload_n hx hb dX0_writeLevel_38 rfl (lv_at hl 3 rfl) ?_
        refine lv_iconst (v := nI (1)) hx hb dX0_writeLevel_39 (by decide) ?_
        refine gAdd (z := nI (hv + 1)) hx hb dX0_writeLevel_40 (nI_add _ _) ?_
        refine kMv (va_runV (As := [.int (nI (z.natAbs + 1)), .int (nI (hv + 1))]) (rest := []) ⟨hx, hb, hml, hown, hts⟩ (c_X0_writeNumber rh r1 u_3 (ln + hv) (nI (z.natAbs + 1)) (hv + 1) (by first | assumption | omega) (hP.sub [0, 1] rfl) ((hD.sub [0, 1] (by decide) rfl).weaken (fun _ _ _ h => hLo _ h))) (cwV 2 hts gX0_writeLevel_X0_writeNumber rfl rfl rfl (by decide +kernel) ⟨Nat.le_of_ble_eq_true rfl, Nat.le_of_ble_eq_true rfl⟩) (preV hC hS hLo hP (ci := 0) (q0 := 0) rfl rfl) rfl rfl hl.1 rfl (lv_room (Nat.le_of_ble_eq_true rfl)) dX0_writeLevel_41 ⟨Nat.zero_le _, Nat.zero_le _⟩) hP hD hS hA [0, 1] (by decide) rfl (fun _ => rfl) (fun u_6 H locs q_7 hP hD hS => ?_)
        have hP : PP G ([(rh, .inr (0, [.ref r1, .int (nI ((ln + hv) + (hv + 1)))])), (r1, .inl (cZ G, 166, .inl (u_6)))]) H := hP
        have hD : va_D A ([(rh, .inr (0, [.ref r1, .int (nI ((ln + hv) + (hv + 1)))])), (r1, .inl (cZ G, 166, .inl (u_6)))]) := hD
        refine lv_iload_n hx hb dX0_writeLevel_44 rfl (lv_at hl 1 rfl) ?_
        refine lv_if_eq (tgt := 61) hx hb dX0_writeLevel_45 (by decide) (fun c_9 => ?_) (fun c_9 => ?_)
        · have f_10 : (z) = (0 : Int) := (c_eq (iI_toInt (by omega) (by omega)) rfl).mp c_9
          have el : (ln + hv) + (hv + 1) = ln + lbits z := by unfold lbits; split <;> omega
          rw [el] at hP
          exact xMv (G := G) (post := (fun (u : Nat → Int32) => True)) (w1 := (fun (u : Nat → Int32) => [(rh, .inr (0, [.ref r1, .int (nI (ln + lbits z))])), (r1, .inl (cZ G, 166, .inl (u)))])) (u_6) hx hb hr hlocks hP hS (by exact trivial) dX0_writeLevel_61
        · have f_11 : ¬ (z) = (0 : Int) := fun z => c_9 ((c_eq (iI_toInt (by omega) (by omega)) rfl).mpr z)
          refine lv_aload_n hx hb dX0_writeLevel_48 rfl (lv_at hl 0 rfl) ?_
          refine lv_iload_n hx hb dX0_writeLevel_49 rfl (lv_at hl 1 rfl) ?_
          refine lv_if_ge (tgt := 57) hx hb dX0_writeLevel_50 (by decide) (fun c_12 => ?_) (fun c_12 => ?_)
          · have f_13 : (0 : Int) ≤ (z) := (c_le rfl (iI_toInt (by omega) (by omega))).mp c_12
            refine lv_iconst (v := nI (0)) hx hb dX0_writeLevel_57 (by decide) ?_
            refine kMv (va_runV (As := [.int (nI (0))]) (rest := []) ⟨hx, hb, hml, hown, hts⟩ (c_X0_writeBit rh r1 u_6 ((ln + hv) + (hv + 1)) (nI (0)) (by first | assumption | omega) (hP.sub [0, 1] rfl) ((hD.sub [0, 1] (by decide) rfl).weaken (fun _ _ _ h => hLo _ h))) (cwV 1 hts gX0_writeLevel_X0_writeBit rfl rfl rfl (by decide +kernel) ⟨Nat.le_of_ble_eq_true rfl, Nat.le_of_ble_eq_true rfl⟩) (preV hC hS hLo hP (ci := 0) (q0 := 0) rfl rfl) rfl rfl hl.1 rfl (lv_room (Nat.le_of_ble_eq_true rfl)) dX0_writeLevel_58 ⟨Nat.zero_le _, Nat.zero_le _⟩) hP hD hS hA [0, 1] (by decide) rfl (fun _ => rfl) (fun u_14 H locs q_15 hP hD hS => ?_)
            have hP : PP G ([(rh, .inr (0, [.ref r1, .int (nI (((ln + hv) + (hv + 1)) + 1))])), (r1, .inl (cZ G, 166, .inl (upd u_6 ((ln + hv) + (hv + 1)) (vp_nar .boolean (nI (0))))))]) H := hP
            have hD : va_D A ([(rh, .inr (0, [.ref r1, .int (nI (((ln + hv) + (hv + 1)) + 1))])), (r1, .inl (cZ G, 166, .inl (upd u_6 ((ln + hv) + (hv + 1)) (vp_nar .boolean (nI (0))))))]) := hD
            have el : ((ln + hv) + (hv + 1)) + 1 = ln + lbits z := by unfold lbits; split <;> omega
            rw [el] at hP
            exact xMv (G := G) (post := (fun (u : Nat → Int32) => True)) (w1 := (fun (u : Nat → Int32) => [(rh, .inr (0, [.ref r1, .int (nI (ln + lbits z))])), (r1, .inl (cZ G, 166, .inl (u)))])) (upd u_6 ((ln + hv) + (hv + 1)) (vp_nar .boolean (nI (0)))) hx hb hr hlocks hP hS (by exact trivial) dX0_writeLevel_61
          · have f_17 : ¬ (0 : Int) ≤ (z) := fun z => c_12 ((c_le rfl (iI_toInt (by omega) (by omega))).mpr z)
            refine lv_iconst (v := nI (1)) hx hb dX0_writeLevel_53 (by decide) ?_
            refine lv_goto (tgt := 58) hx hb dX0_writeLevel_54 (by decide) ?_
            refine kMv (va_runV (As := [.int (nI (1))]) (rest := []) ⟨hx, hb, hml, hown, hts⟩ (c_X0_writeBit rh r1 u_6 ((ln + hv) + (hv + 1)) (nI (1)) (by first | assumption | omega) (hP.sub [0, 1] rfl) ((hD.sub [0, 1] (by decide) rfl).weaken (fun _ _ _ h => hLo _ h))) (cwV 1 hts gX0_writeLevel_X0_writeBit rfl rfl rfl (by decide +kernel) ⟨Nat.le_of_ble_eq_true rfl, Nat.le_of_ble_eq_true rfl⟩) (preV hC hS hLo hP (ci := 0) (q0 := 0) rfl rfl) rfl rfl hl.1 rfl (lv_room (Nat.le_of_ble_eq_true rfl)) dX0_writeLevel_58 ⟨Nat.zero_le _, Nat.zero_le _⟩) hP hD hS hA [0, 1] (by decide) rfl (fun _ => rfl) (fun u_18 H locs q_19 hP hD hS => ?_)
            have hP : PP G ([(rh, .inr (0, [.ref r1, .int (nI (((ln + hv) + (hv + 1)) + 1))])), (r1, .inl (cZ G, 166, .inl (upd u_6 ((ln + hv) + (hv + 1)) (vp_nar .boolean (nI (1))))))]) H := hP
            have hD : va_D A ([(rh, .inr (0, [.ref r1, .int (nI (((ln + hv) + (hv + 1)) + 1))])), (r1, .inl (cZ G, 166, .inl (upd u_6 ((ln + hv) + (hv + 1)) (vp_nar .boolean (nI (1))))))]) := hD
            have el : ((ln + hv) + (hv + 1)) + 1 = ln + lbits z := by unfold lbits; split <;> omega
            rw [el] at hP
            exact xMv (G := G) (post := (fun (u : Nat → Int32) => True)) (w1 := (fun (u : Nat → Int32) => [(rh, .inr (0, [.ref r1, .int (nI (ln + lbits z))])), (r1, .inl (cZ G, 166, .inl (u)))])) (upd u_6 ((ln + hv) + (hv + 1)) (vp_nar .boolean (nI (1)))) hx hb hr hlocks hP hS (by exact trivial) dX0_writeLevel_61
      · have f_21 : ¬ ((n : Nat) : Int) ≤ (1 : Int) := fun z => c_1 ((c_le (nI_toInt (n := n) (by omega)) (nI_toInt (n := 1) (by omega))).mpr z)
        refine lv_iinc (v := nI (hv + 1)) (lv' := [(3, .int (nI (hv + 1))), (0, .ref rh), (1, .int (iI (z))), (2, .int (nI (z.natAbs + 1))), (4, .int (nI (n)))]) hx hb dX0_writeLevel_18 hl (k := 3) rfl (inc_p hv 1) (by decide) rfl (fun ls hl => ?_)
        refine lv_iload hx hb dX0_writeLevel_21 (lv_at hl 4 rfl) ?_
        refine lv_iconst (v := nI (2)) hx hb dX0_writeLevel_23 (by decide) ?_
        refine gDiv (z := nI (n / 2)) hx hb dX0_writeLevel_24 (nI_ne0 (by omega) (by omega)) (pk_div (by omega) (by omega) (by omega)) ?_
        refine lv_istore (lv' := [(4, .int (nI (n / 2))), (3, .int (nI (hv + 1))), (0, .ref rh), (1, .int (iI (z))), (2, .int (nI (z.natAbs + 1)))]) hx hb dX0_writeLevel_25 hl (by decide) rfl (fun ls hl => ?_)
        refine lv_goto (tgt := 12) hx hb dX0_writeLevel_27 (by decide) ?_
        exact ih_12 (hv + 1) (n / 2) (by omega) (by have := log2_half (n := n) (by omega); omega) (by omega) locs ls hS (lv_sub hl [2, 3, 4, 1, 0] ((lvc rfl (lvc rfl (lvc rfl (lvc rfl (lvc rfl rfl)))))))
  exact L_12 (_ + 1) 0 (z.natAbs + 1) (Nat.lt_succ_self _) (by omega) (by omega) locs ls hS (lv_sub hl [3, 4, 2, 1, 0] (lvc rfl (lvc rfl (lvc rfl (lvc rfl (lvc rfl rfl))))))

set_option maxHeartbeats 4000000 in
set_option maxRecDepth 100000 in
theorem c_X0_writeRaw {l : Launch} {G : GT} {H0 : Heap} (rh r1 : Nat) (g9 : Nat → Int32) (ln : Nat) (h q : Nat) (f : Nat → Int) (b : Nat) (hb4 : b < 4) (hln : ln + 66 ≤ 166) (hP0 : PP G ([(rh, .inr (0, [.ref r1, .int (nI (ln))])), (r1, .inl (cZ G, 166, .inl (g9))), (h, .inr (3, [.ref q])), (q, .inl (cI G, 64, .inl (fun z9 => iI (f z9))))]) H0) (hB0 : va_D (lo G) ([(rh, .inr (0, [.ref r1, .int (nI (ln))])), (r1, .inl (cZ G, 166, .inl (g9))), (h, .inr (3, [.ref q])), (q, .inl (cI G, 64, .inl (fun z9 => iI (f z9))))])) : Met l yX0_writeRaw wsX0_writeRaw ({ frames := 2, cells := 0, slots := 0, locals := 44 } : Room) (pcG G [.ref rh, .ref h, .int (nI (b))] H0) (qMv G (fun (u : Nat → Int32) => True) (fun (u : Nat → Int32) => [(rh, .inr (0, [.ref r1, .int (nI (ln + 66))])), (r1, .inl (cZ G, 166, .inl (u))), (h, .inr (3, [.ref q])), (q, .inl (cI G, 64, .inl (fun z9 => iI (f z9))))]) ([(rh, .inr (0, [.ref r1, .int (nI (ln))])), (r1, .inl (cZ G, 166, .inl (g9))), (h, .inr (3, [.ref q])), (q, .inl (cI G, 64, .inl (fun z9 => iI (f z9))))]) H0) 0 0 (va_A ([(rh, .inr (0, [.ref r1, .int (nI (ln))])), (r1, .inl (cZ G, 166, .inl (g9))), (h, .inr (3, [.ref q])), (q, .inl (cI G, 64, .inl (fun z9 => iI (f z9))))]) H0.size) := by
  refine enter (cc := cX0_writeRaw) (maxL := 4) (ret := none) (own := RX0) (lv := [(0, .ref rh), (1, .ref h), (2, .int (nI (b)))]) (by decide) rfl rfl rfl (Nat.le_of_ble_eq_true rfl) ?_
  intro pg ev s m below meth c hx hb hr hts hown hlocks hml hnm hH hC ls hl
  subst hH
  have hLo := va_freeB hB0 hC.2.2.2.1
  have hD := hB0.self (sz := s.heap.size)
  have hS : va_S (va_A ([(rh, .inr (0, [.ref r1, .int (nI (ln))])), (r1, .inl (cZ G, 166, .inl (g9))), (h, .inr (3, [.ref q])), (q, .inl (cI G, 64, .inl (fun z9 => iI (f z9))))]) s.heap.size) s.heap s.heap [] := va_S.rf
  unfold qMv
  generalize hAe : va_A ([(rh, .inr (0, [.ref r1, .int (nI (ln))])), (r1, .inl (cZ G, 166, .inl (g9))), (h, .inr (3, [.ref q])), (q, .inl (cI G, 64, .inl (fun z9 => iI (f z9))))]) s.heap.size = A at hD hLo hS ⊢
  have hA : ∀ q, s.heap.size ≤ q → A q := fun q h => by rw [← hAe]; exact Or.inr h
  generalize ([] : List Loc) = locs at hS ⊢
  have hP := hP0
  refine lv_aload_n hx hb dX0_writeRaw_0 rfl (lv_at hl 0 rfl) ?_
  refine lv_iconst (v := nI (0)) hx hb dX0_writeRaw_1 (by decide) ?_
  refine lv_iconst (v := nI (2)) hx hb dX0_writeRaw_2 (by decide) ?_
  refine kMv (va_runV (As := [.int (nI (0)), .int (nI (2))]) (rest := []) ⟨hx, hb, hml, hown, hts⟩ (c_X0_writeNumber rh r1 g9 ln (nI (0)) 2 (by first | assumption | omega) (hP.sub [0, 1] rfl) ((hD.sub [0, 1] (by decide) rfl).weaken (fun _ _ _ h => hLo _ h))) (cwV 2 hts gX0_writeRaw_X0_writeNumber rfl rfl rfl (by decide +kernel) ⟨Nat.le_of_ble_eq_true rfl, Nat.le_of_ble_eq_true rfl⟩) (preV hC hS hLo hP (ci := 0) (q0 := 0) rfl rfl) rfl rfl hl.1 rfl (lv_room (Nat.le_of_ble_eq_true rfl)) dX0_writeRaw_3 ⟨Nat.zero_le _, Nat.zero_le _⟩) hP hD hS hA [0, 1] (by decide) rfl (fun _ => rfl) (fun u_1 H locs q_2 hP hD hS => ?_)
  have hP : PP G ([(rh, .inr (0, [.ref r1, .int (nI (ln + 2))])), (r1, .inl (cZ G, 166, .inl (u_1))), (h, .inr (3, [.ref q])), (q, .inl (cI G, 64, .inl (fun z9 => iI (f z9))))]) H := hP
  have hD : va_D A ([(rh, .inr (0, [.ref r1, .int (nI (ln + 2))])), (r1, .inl (cZ G, 166, .inl (u_1))), (h, .inr (3, [.ref q])), (q, .inl (cI G, 64, .inl (fun z9 => iI (f z9))))]) := hD
  refine lv_iconst (v := nI (0)) hx hb dX0_writeRaw_6 (by decide) ?_
  refine lv_istore_n (lv' := [(3, .int (nI (0))), (0, .ref rh), (1, .ref h), (2, .int (nI (b)))]) hx hb dX0_writeRaw_7 rfl hl (by decide) rfl (fun ls hl => ?_)
  have L_8 : ∀ (n_8 : Nat) (i : Nat) (gg : Nat → Int32), 16 - i < n_8 → (i ≤ 16) → ∀ (H : Heap) (locs : List Loc) (ls : Array Slot), PP G ([(rh, .inr (0, [.ref r1, .int (nI (ln + 2 + 4 * i))])), (r1, .inl (cZ G, 166, .inl (gg))), (h, .inr (3, [.ref q])), (q, .inl (cI G, 64, .inl (fun z9 => iI (f z9))))]) H → va_D A ([(rh, .inr (0, [.ref r1, .int (nI (ln + 2 + 4 * i))])), (r1, .inl (cZ G, 166, .inl (gg))), (h, .inr (3, [.ref q])), (q, .inl (cI G, 64, .inl (fun z9 => iI (f z9))))]) → va_S A s.heap H locs → lv_has ls 4 [(0, .ref rh), (1, .ref h), (2, .int (nI (b))), (3, .int (nI (i)))] → W pg l ev ({ frames := 2, cells := 0, slots := 0, locals := 44 } : Room) s m (([.ref rh, .ref h, .int (nI (b))] : List Value).toArray) below meth c H locs 0 0 (MQ below (va_Qv (fun (u : Nat → Int32) => True) (fun (u : Nat → Int32) t9 => PP G ([(rh, .inr (0, [.ref r1, .int (nI (ln + 66))])), (r1, .inl (cZ G, 166, .inl (u))), (h, .inr (3, [.ref q])), (q, .inl (cI G, 64, .inl (fun z9 => iI (f z9))))]) t9.heap) A) (([.ref rh, .ref h, .int (nI (b))] : List Value).toArray) s 0 0 A) (F0 m 8 ls []) := by
    intro n_8
    induction n_8 with
    | zero => intro i gg hn; exact absurd hn (Nat.not_lt_zero _)
    | succ n_8 ih_8 =>
      intro i gg hn_8 hi H locs ls hP hD hS hl
      refine lv_iload_n hx hb dX0_writeRaw_8 rfl (lv_at hl 3 rfl) ?_
      refine lv_bipush (v := nI (16)) hx hb dX0_writeRaw_9 (by decide) ?_
      refine lv_icmp_ge (tgt := 34) hx hb dX0_writeRaw_11 (by decide) (fun c_4 => ?_) (fun c_4 => ?_)
      · have f_5 : (16 : Int) ≤ ((i : Nat) : Int) := (c_le (nI_toInt (n := 16) (by omega)) (nI_toInt (n := i) (by omega))).mp c_4
        have e_i : i = 16 := by omega
        replace e_i := e_i.symm
        subst e_i
        exact xMv (G := G) (post := (fun (u : Nat → Int32) => True)) (w1 := (fun (u : Nat → Int32) => [(rh, .inr (0, [.ref r1, .int (nI (ln + 66))])), (r1, .inl (cZ G, 166, .inl (u))), (h, .inr (3, [.ref q])), (q, .inl (cI G, 64, .inl (fun z9 => iI (f z9))))])) (gg) hx hb hr hlocks hP hS (by exact trivial) dX0_writeRaw_34
      · have f_6 : ¬ (16 : Int) ≤ ((i : Nat) : Int) := fun z => c_4 ((c_le (nI_toInt (n := 16) (by omega)) (nI_toInt (n := i) (by omega))).mpr z)
        refine lv_aload_n hx hb dX0_writeRaw_14 rfl (lv_at hl 0 rfl) ?_
        refine lv_aload_n hx hb dX0_writeRaw_15 rfl (lv_at hl 1 rfl) ?_
        refine lv_iload_n hx hb dX0_writeRaw_16 rfl (lv_at hl 2 rfl) ?_
        refine lv_iload_n hx hb dX0_writeRaw_17 rfl (lv_at hl 3 rfl) ?_
        refine kPi (va_runSN (As := [.int (nI (b)), .int (nI (i))]) (rest := [.ref h, .ref rh]) ⟨hx, hb, hml, hown, hts⟩ (c_X8_pixelIn b i (by first | assumption | omega) (by first | assumption | omega)) ⟨va_cnB 2 hts gX0_writeRaw_X8_pixelIn_n29 rfl rfl rfl (hC.nest 69 rfl) (hts (.initialized RX8) (by decide +kernel)) (by decide +kernel) ⟨Nat.le_of_ble_eq_true rfl, Nat.le_of_ble_eq_true rfl⟩, (hts (.static yX8_pixelIn) (by decide +kernel)), trivial⟩ (preS hC hS hLo) rfl rfl hl.1 rfl (lv_room (Nat.le_of_ble_eq_true rfl)) dX0_writeRaw_18 ⟨Nat.zero_le _, Nat.zero_le _⟩) hS (fun locs hS => ?_)
        have hpx := px_lt hb4 (by omega : i < 16)
        refine kPi (va_runVN (As := [.int (nI (px b i))]) (rest := [.ref rh]) ⟨hx, hb, hml, hown, hts⟩ (c_X4_valueAt h q f (px b i) (by first | assumption | omega) (hP.sub [2, 3] rfl)) ⟨va_cnB 1 hts gX0_writeRaw_X4_valueAt_n44 rfl rfl rfl (hC.nest 71 rfl) (hts (.initialized RX4) (by decide +kernel)) (by decide +kernel) ⟨Nat.le_of_ble_eq_true rfl, Nat.le_of_ble_eq_true rfl⟩, (hts (.instanceMethod yX4_valueAt) (by decide +kernel)), (hts (.selects RX4 yX4_valueAt yX4_valueAt) (by decide +kernel))⟩ (preV hC hS hLo hP (ci := 3) (q0 := 2) rfl rfl) rfl rfl hl.1 rfl (lv_room (Nat.le_of_ble_eq_true rfl)) dX0_writeRaw_21 ⟨Nat.zero_le _, Nat.zero_le _⟩) hS (fun locs hS => ?_)
        refine lv_iconst (v := nI (4)) hx hb dX0_writeRaw_24 (by decide) ?_
        refine kMv (va_runV (As := [.int (iI (f (px b i))), .int (nI (4))]) (rest := []) ⟨hx, hb, hml, hown, hts⟩ (c_X0_writeNumber rh r1 gg (ln + 2 + 4 * i) (iI (f (px b i))) 4 (by first | assumption | omega) (hP.sub [0, 1] rfl) ((hD.sub [0, 1] (by decide) rfl).weaken (fun _ _ _ h => hLo _ h))) (cwV 2 hts gX0_writeRaw_X0_writeNumber rfl rfl rfl (by decide +kernel) ⟨Nat.le_of_ble_eq_true rfl, Nat.le_of_ble_eq_true rfl⟩) (preV hC hS hLo hP (ci := 0) (q0 := 0) rfl rfl) rfl rfl hl.1 rfl (lv_room (Nat.le_of_ble_eq_true rfl)) dX0_writeRaw_25 ⟨Nat.zero_le _, Nat.zero_le _⟩) hP hD hS hA [0, 1] (by decide) rfl (fun _ => rfl) (fun u_7 H locs q_8 hP hD hS => ?_)
        have hP : PP G ([(rh, .inr (0, [.ref r1, .int (nI ((ln + 2 + 4 * i) + 4))])), (r1, .inl (cZ G, 166, .inl (u_7))), (h, .inr (3, [.ref q])), (q, .inl (cI G, 64, .inl (fun z9 => iI (f z9))))]) H := hP
        have hD : va_D A ([(rh, .inr (0, [.ref r1, .int (nI ((ln + 2 + 4 * i) + 4))])), (r1, .inl (cZ G, 166, .inl (u_7))), (h, .inr (3, [.ref q])), (q, .inl (cI G, 64, .inl (fun z9 => iI (f z9))))]) := hD
        refine lv_iinc (v := nI (i + 1)) (lv' := [(3, .int (nI (i + 1))), (0, .ref rh), (1, .ref h), (2, .int (nI (b)))]) hx hb dX0_writeRaw_28 hl (k := 3) rfl (inc_p i 1) (by decide) rfl (fun ls hl => ?_)
        refine lv_goto (tgt := 8) hx hb dX0_writeRaw_31 (by decide) ?_
        exact ih_8 (i + 1) (u_7) (by omega) (by omega) H locs ls hP hD hS (lv_sub hl [1, 2, 3, 0] ((lvc rfl (lvc rfl (lvc rfl (lvc rfl rfl))))))
  exact L_8 (16 + 1) 0 (u_1) (Nat.lt_succ_self _) (by omega) H locs ls hP hD hS (lv_sub hl [1, 2, 3, 0] (lvc rfl (lvc rfl (lvc rfl (lvc rfl rfl)))))

set_option maxHeartbeats 4000000 in
set_option maxRecDepth 100000 in
theorem c_X0_writeBlock {l : Launch} {G : GT} {H0 : Heap} (rh r1 : Nat) (g9 : Nat → Int32) (ln : Nat) (ph p1 p2 p3 p4 p5 : Nat) (mo ki : Nat → Nat) (pr df : Nat → Int) (co : Int32) (bi : Nat) (h q1 : Nat) (f : Nat → Int) (b q : Nat) (hb4 : b < 4) (hq : 1 ≤ q ∧ q ≤ 8) (hdf : D15 df) (hmo : M25 mo) (hP0 : PP G ([(rh, .inr (0, [.ref r1, .int (nI (ln))])), (r1, .inl (cZ G, 166, .inl (g9))), (ph, .inr (4, [.ref p1, .ref p2, .ref p3, .ref p5, .int (co), .int (nI (bi))])), (p1, .inl (cI G, 4, .inl (fun z9 => nI (mo z9)))), (p2, .inl (cI G, 4, .inl (fun z9 => nI (ki z9)))), (p3, .inr (3, [.ref p4])), (p4, .inl (cI G, 64, .inl (fun z9 => iI (pr z9)))), (p5, .inl (cI G, 64, .inl (fun z9 => iI (df z9)))), (h, .inr (3, [.ref q1])), (q1, .inl (cI G, 64, .inl (fun z9 => iI (f z9))))]) H0) (hB0 : va_D (lo G) ([(rh, .inr (0, [.ref r1, .int (nI (ln))])), (r1, .inl (cZ G, 166, .inl (g9))), (ph, .inr (4, [.ref p1, .ref p2, .ref p3, .ref p5, .int (co), .int (nI (bi))])), (p1, .inl (cI G, 4, .inl (fun z9 => nI (mo z9)))), (p2, .inl (cI G, 4, .inl (fun z9 => nI (ki z9)))), (p3, .inr (3, [.ref p4])), (p4, .inl (cI G, 64, .inl (fun z9 => iI (pr z9)))), (p5, .inl (cI G, 64, .inl (fun z9 => iI (df z9)))), (h, .inr (3, [.ref q1])), (q1, .inl (cI G, 64, .inl (fun z9 => iI (f z9))))])) : Met l yX0_writeBlock wsX0_writeBlock ({ frames := 3, cells := 0, slots := 0, locals := 68 } : Room) (pcG G [.ref rh, .ref ph, .ref h, .int (nI (b)), .int (nI (q))] H0) (qMi G (fun (r : Int32) (u : (Nat → Int32) × Nat) => r = nI (btW (mo b) (LB df b q 16))) (fun (u : (Nat → Int32) × Nat) => [(rh, .inr (0, [.ref r1, .int (nI (u.2))])), (r1, .inl (cZ G, 166, .inl (u.1))), (ph, .inr (4, [.ref p1, .ref p2, .ref p3, .ref p5, .int (co), .int (nI (bi))])), (p1, .inl (cI G, 4, .inl (fun z9 => nI (mo z9)))), (p2, .inl (cI G, 4, .inl (fun z9 => nI (ki z9)))), (p3, .inr (3, [.ref p4])), (p4, .inl (cI G, 64, .inl (fun z9 => iI (pr z9)))), (p5, .inl (cI G, 64, .inl (fun z9 => iI (df z9)))), (h, .inr (3, [.ref q1])), (q1, .inl (cI G, 64, .inl (fun z9 => iI (f z9))))]) ([(rh, .inr (0, [.ref r1, .int (nI (ln))])), (r1, .inl (cZ G, 166, .inl (g9))), (ph, .inr (4, [.ref p1, .ref p2, .ref p3, .ref p5, .int (co), .int (nI (bi))])), (p1, .inl (cI G, 4, .inl (fun z9 => nI (mo z9)))), (p2, .inl (cI G, 4, .inl (fun z9 => nI (ki z9)))), (p3, .inr (3, [.ref p4])), (p4, .inl (cI G, 64, .inl (fun z9 => iI (pr z9)))), (p5, .inl (cI G, 64, .inl (fun z9 => iI (df z9)))), (h, .inr (3, [.ref q1])), (q1, .inl (cI G, 64, .inl (fun z9 => iI (f z9))))]) H0) 0 0 (va_A ([(rh, .inr (0, [.ref r1, .int (nI (ln))])), (r1, .inl (cZ G, 166, .inl (g9))), (ph, .inr (4, [.ref p1, .ref p2, .ref p3, .ref p5, .int (co), .int (nI (bi))])), (p1, .inl (cI G, 4, .inl (fun z9 => nI (mo z9)))), (p2, .inl (cI G, 4, .inl (fun z9 => nI (ki z9)))), (p3, .inr (3, [.ref p4])), (p4, .inl (cI G, 64, .inl (fun z9 => iI (pr z9)))), (p5, .inl (cI G, 64, .inl (fun z9 => iI (df z9)))), (h, .inr (3, [.ref q1])), (q1, .inl (cI G, 64, .inl (fun z9 => iI (f z9))))]) H0.size) := by
  refine enter (cc := cX0_writeBlock) (maxL := 8) (ret := some .int) (own := RX0) (lv := [(0, .ref rh), (1, .ref ph), (2, .ref h), (3, .int (nI (b))), (4, .int (nI (q)))]) (by decide) rfl rfl rfl (Nat.le_of_ble_eq_true rfl) ?_
  intro pg ev s m below meth c hx hb hr hts hown hlocks hml hnm hH hC ls hl
  subst hH
  have hLo := va_freeB hB0 hC.2.2.2.1
  have hD := hB0.self (sz := s.heap.size)
  have hS : va_S (va_A ([(rh, .inr (0, [.ref r1, .int (nI (ln))])), (r1, .inl (cZ G, 166, .inl (g9))), (ph, .inr (4, [.ref p1, .ref p2, .ref p3, .ref p5, .int (co), .int (nI (bi))])), (p1, .inl (cI G, 4, .inl (fun z9 => nI (mo z9)))), (p2, .inl (cI G, 4, .inl (fun z9 => nI (ki z9)))), (p3, .inr (3, [.ref p4])), (p4, .inl (cI G, 64, .inl (fun z9 => iI (pr z9)))), (p5, .inl (cI G, 64, .inl (fun z9 => iI (df z9)))), (h, .inr (3, [.ref q1])), (q1, .inl (cI G, 64, .inl (fun z9 => iI (f z9))))]) s.heap.size) s.heap s.heap [] := va_S.rf
  unfold qMi
  generalize hAe : va_A ([(rh, .inr (0, [.ref r1, .int (nI (ln))])), (r1, .inl (cZ G, 166, .inl (g9))), (ph, .inr (4, [.ref p1, .ref p2, .ref p3, .ref p5, .int (co), .int (nI (bi))])), (p1, .inl (cI G, 4, .inl (fun z9 => nI (mo z9)))), (p2, .inl (cI G, 4, .inl (fun z9 => nI (ki z9)))), (p3, .inr (3, [.ref p4])), (p4, .inl (cI G, 64, .inl (fun z9 => iI (pr z9)))), (p5, .inl (cI G, 64, .inl (fun z9 => iI (df z9)))), (h, .inr (3, [.ref q1])), (q1, .inl (cI G, 64, .inl (fun z9 => iI (f z9))))]) s.heap.size = A at hD hLo hS ⊢
  have hA : ∀ q, s.heap.size ≤ q → A q := fun q h => by rw [← hAe]; exact Or.inr h
  generalize ([] : List Loc) = locs at hS ⊢
  have hP := hP0
  refine lv_aload_n hx hb dX0_writeBlock_0 rfl (lv_at hl 1 rfl) ?_
  refine lv_iload_n hx hb dX0_writeBlock_1 rfl (lv_at hl 3 rfl) ?_
  have J_15 : ∀ (locs : List Loc) (ls : Array Slot), va_S A s.heap s.heap locs → lv_has ls 8 [(0, .ref rh), (1, .ref ph), (2, .ref h), (3, .int (nI (b))), (4, .int (nI (q)))] → W pg l ev ({ frames := 3, cells := 0, slots := 0, locals := 68 } : Room) s m (([.ref rh, .ref ph, .ref h, .int (nI (b)), .int (nI (q))] : List Value).toArray) below meth c s.heap locs 0 0 (MQ below (va_Qi (fun (r : Int32) (u : (Nat → Int32) × Nat) => r = nI (btW (mo b) (LB df b q 16))) (fun (u : (Nat → Int32) × Nat) t9 => PP G ([(rh, .inr (0, [.ref r1, .int (nI (u.2))])), (r1, .inl (cZ G, 166, .inl (u.1))), (ph, .inr (4, [.ref p1, .ref p2, .ref p3, .ref p5, .int (co), .int (nI (bi))])), (p1, .inl (cI G, 4, .inl (fun z9 => nI (mo z9)))), (p2, .inl (cI G, 4, .inl (fun z9 => nI (ki z9)))), (p3, .inr (3, [.ref p4])), (p4, .inl (cI G, 64, .inl (fun z9 => iI (pr z9)))), (p5, .inl (cI G, 64, .inl (fun z9 => iI (df z9)))), (h, .inr (3, [.ref q1])), (q1, .inl (cI G, 64, .inl (fun z9 => iI (f z9))))]) t9.heap) A) (([.ref rh, .ref ph, .ref h, .int (nI (b)), .int (nI (q))] : List Value).toArray) s 0 0 A) (F0 m 15 ls [.int (bI (mo b = 12 ∧ AZ df b q 0))]) := by
    intro locs ls hS hl
    refine lv_istore (lv' := [(5, .int (bI (mo b = 12 ∧ AZ df b q 0))), (0, .ref rh), (1, .ref ph), (2, .ref h), (3, .int (nI (b))), (4, .int (nI (q)))]) hx hb dX0_writeBlock_15 hl (by decide) rfl (fun ls hl => ?_)
    refine lv_aload_n hx hb dX0_writeBlock_17 rfl (lv_at hl 1 rfl) ?_
    refine lv_iconst (v := nI (0)) hx hb dX0_writeBlock_18 (by decide) ?_
    refine va_put (D := gD G) (cl := vwCl) (tys := tyl G) (ci := 0) (v := .int (nI (0))) (ty := .int) (C := RX0) (T := TX0) (N := 2) hx hb hts (by decide +kernel) tyX0 tyX0_ok nmX0 hown hC.K hP hD hS 0 rfl rfl 1 (by decide) (hts (.fieldLink RX0 15 "MotionPost$BitRow" "length" "I") (by decide +kernel)) (fun _ h9 => h9) rfl (by decide +kernel) (rfl) rfl (Nat.le_of_ble_eq_true rfl) dX0_writeBlock_19 (fun H locs hP hD hS => ?_)
    have hP : PP G ([(rh, .inr (0, [.ref r1, .int (nI (0))])), (r1, .inl (cZ G, 166, .inl (g9))), (ph, .inr (4, [.ref p1, .ref p2, .ref p3, .ref p5, .int (co), .int (nI (bi))])), (p1, .inl (cI G, 4, .inl (fun z9 => nI (mo z9)))), (p2, .inl (cI G, 4, .inl (fun z9 => nI (ki z9)))), (p3, .inr (3, [.ref p4])), (p4, .inl (cI G, 64, .inl (fun z9 => iI (pr z9)))), (p5, .inl (cI G, 64, .inl (fun z9 => iI (df z9)))), (h, .inr (3, [.ref q1])), (q1, .inl (cI G, 64, .inl (fun z9 => iI (f z9))))]) H := hP
    have hD : va_D A ([(rh, .inr (0, [.ref r1, .int (nI (0))])), (r1, .inl (cZ G, 166, .inl (g9))), (ph, .inr (4, [.ref p1, .ref p2, .ref p3, .ref p5, .int (co), .int (nI (bi))])), (p1, .inl (cI G, 4, .inl (fun z9 => nI (mo z9)))), (p2, .inl (cI G, 4, .inl (fun z9 => nI (ki z9)))), (p3, .inr (3, [.ref p4])), (p4, .inl (cI G, 64, .inl (fun z9 => iI (pr z9)))), (p5, .inl (cI G, 64, .inl (fun z9 => iI (df z9)))), (h, .inr (3, [.ref q1])), (q1, .inl (cI G, 64, .inl (fun z9 => iI (f z9))))]) := hD
    refine lv_aload_n hx hb dX0_writeBlock_22 rfl (lv_at hl 1 rfl) ?_
    refine lv_aload_n hx hb dX0_writeBlock_23 rfl (lv_at hl 2 rfl) ?_
    refine lv_iload_n hx hb dX0_writeBlock_24 rfl (lv_at hl 4 rfl) ?_
    refine kPi (va_runVN (As := [.int (nI (b))]) (rest := [.ref rh]) ⟨hx, hb, hml, hown, hts⟩ (c_X5_moveOf ph p1 p2 p3 p4 p5 mo ki pr df co bi b (by first | assumption | omega) (hP.sub [2, 3, 4, 5, 6, 7] rfl)) ⟨va_cnB 1 hts gX0_writeBlock_X5_moveOf_n19 rfl rfl rfl (hC.nest 68 rfl) (hts (.initialized RX5) (by decide +kernel)) (by decide +kernel) ⟨Nat.le_of_ble_eq_true rfl, Nat.le_of_ble_eq_true rfl⟩, (hts (.instanceMethod yX5_moveOf) (by decide +kernel)), (hts (.selects RX5 yX5_moveOf yX5_moveOf) (by decide +kernel))⟩ (preV hC hS hLo hP (ci := 4) (q0 := 2) rfl rfl) rfl rfl hl.1 rfl (lv_room (Nat.le_of_ble_eq_true rfl)) dX0_writeBlock_25 ⟨Nat.zero_le _, Nat.zero_le _⟩) hS (fun locs hS => ?_)
    refine lv_bipush (v := nI (6)) hx hb dX0_writeBlock_28 (by decide) ?_
    refine kMv (va_runV (As := [.int (nI (mo b)), .int (nI (6))]) (rest := []) ⟨hx, hb, hml, hown, hts⟩ (c_X0_writeNumber rh r1 g9 0 (nI (mo b)) 6 (by first | assumption | omega) (hP.sub [0, 1] rfl) ((hD.sub [0, 1] (by decide) rfl).weaken (fun _ _ _ h => hLo _ h))) (cwV 2 hts gX0_writeBlock_X0_writeNumber rfl rfl rfl (by decide +kernel) ⟨Nat.le_of_ble_eq_true rfl, Nat.le_of_ble_eq_true rfl⟩) (preV hC hS hLo hP (ci := 0) (q0 := 0) rfl rfl) rfl rfl hl.1 rfl (lv_room (Nat.le_of_ble_eq_true rfl)) dX0_writeBlock_30 ⟨Nat.zero_le _, Nat.zero_le _⟩) hP hD hS hA [0, 1] (by decide) rfl (fun _ => rfl) (fun u_1 H locs q_2 hP hD hS => ?_)
    have hP : PP G ([(rh, .inr (0, [.ref r1, .int (nI (0 + 6))])), (r1, .inl (cZ G, 166, .inl (u_1))), (ph, .inr (4, [.ref p1, .ref p2, .ref p3, .ref p5, .int (co), .int (nI (bi))])), (p1, .inl (cI G, 4, .inl (fun z9 => nI (mo z9)))), (p2, .inl (cI G, 4, .inl (fun z9 => nI (ki z9)))), (p3, .inr (3, [.ref p4])), (p4, .inl (cI G, 64, .inl (fun z9 => iI (pr z9)))), (p5, .inl (cI G, 64, .inl (fun z9 => iI (df z9)))), (h, .inr (3, [.ref q1])), (q1, .inl (cI G, 64, .inl (fun z9 => iI (f z9))))]) H := hP
    have hD : va_D A ([(rh, .inr (0, [.ref r1, .int (nI (0 + 6))])), (r1, .inl (cZ G, 166, .inl (u_1))), (ph, .inr (4, [.ref p1, .ref p2, .ref p3, .ref p5, .int (co), .int (nI (bi))])), (p1, .inl (cI G, 4, .inl (fun z9 => nI (mo z9)))), (p2, .inl (cI G, 4, .inl (fun z9 => nI (ki z9)))), (p3, .inr (3, [.ref p4])), (p4, .inl (cI G, 64, .inl (fun z9 => iI (pr z9)))), (p5, .inl (cI G, 64, .inl (fun z9 => iI (df z9)))), (h, .inr (3, [.ref q1])), (q1, .inl (cI G, 64, .inl (fun z9 => iI (f z9))))]) := hD
    refine lv_iconst (v := nI (0)) hx hb dX0_writeBlock_33 (by decide) ?_
    refine lv_istore (lv' := [(6, .int (nI (0))), (5, .int (bI (mo b = 12 ∧ AZ df b q 0))), (0, .ref rh), (1, .ref ph), (2, .ref h), (3, .int (nI (b))), (4, .int (nI (q)))]) hx hb dX0_writeBlock_34 hl (by decide) rfl (fun ls hl => ?_)
    have L_36 : ∀ (n_36 : Nat) (i : Nat) (gg : Nat → Int32), 16 - i < n_36 → (i ≤ 16) → ∀ (H : Heap) (locs : List Loc) (ls : Array Slot), PP G ([(rh, .inr (0, [.ref r1, .int (nI (6 + LB df b q i))])), (r1, .inl (cZ G, 166, .inl (gg))), (ph, .inr (4, [.ref p1, .ref p2, .ref p3, .ref p5, .int (co), .int (nI (bi))])), (p1, .inl (cI G, 4, .inl (fun z9 => nI (mo z9)))), (p2, .inl (cI G, 4, .inl (fun z9 => nI (ki z9)))), (p3, .inr (3, [.ref p4])), (p4, .inl (cI G, 64, .inl (fun z9 => iI (pr z9)))), (p5, .inl (cI G, 64, .inl (fun z9 => iI (df z9)))), (h, .inr (3, [.ref q1])), (q1, .inl (cI G, 64, .inl (fun z9 => iI (f z9))))]) H → va_D A ([(rh, .inr (0, [.ref r1, .int (nI (6 + LB df b q i))])), (r1, .inl (cZ G, 166, .inl (gg))), (ph, .inr (4, [.ref p1, .ref p2, .ref p3, .ref p5, .int (co), .int (nI (bi))])), (p1, .inl (cI G, 4, .inl (fun z9 => nI (mo z9)))), (p2, .inl (cI G, 4, .inl (fun z9 => nI (ki z9)))), (p3, .inr (3, [.ref p4])), (p4, .inl (cI G, 64, .inl (fun z9 => iI (pr z9)))), (p5, .inl (cI G, 64, .inl (fun z9 => iI (df z9)))), (h, .inr (3, [.ref q1])), (q1, .inl (cI G, 64, .inl (fun z9 => iI (f z9))))]) → va_S A s.heap H locs → lv_has ls 8 [(0, .ref rh), (1, .ref ph), (2, .ref h), (3, .int (nI (b))), (4, .int (nI (q))), (5, .int (bI (mo b = 12 ∧ AZ df b q i))), (6, .int (nI (i)))] → W pg l ev ({ frames := 3, cells := 0, slots := 0, locals := 68 } : Room) s m (([.ref rh, .ref ph, .ref h, .int (nI (b)), .int (nI (q))] : List Value).toArray) below meth c H locs 0 0 (MQ below (va_Qi (fun (r : Int32) (u : (Nat → Int32) × Nat) => r = nI (btW (mo b) (LB df b q 16))) (fun (u : (Nat → Int32) × Nat) t9 => PP G ([(rh, .inr (0, [.ref r1, .int (nI (u.2))])), (r1, .inl (cZ G, 166, .inl (u.1))), (ph, .inr (4, [.ref p1, .ref p2, .ref p3, .ref p5, .int (co), .int (nI (bi))])), (p1, .inl (cI G, 4, .inl (fun z9 => nI (mo z9)))), (p2, .inl (cI G, 4, .inl (fun z9 => nI (ki z9)))), (p3, .inr (3, [.ref p4])), (p4, .inl (cI G, 64, .inl (fun z9 => iI (pr z9)))), (p5, .inl (cI G, 64, .inl (fun z9 => iI (df z9)))), (h, .inr (3, [.ref q1])), (q1, .inl (cI G, 64, .inl (fun z9 => iI (f z9))))]) t9.heap) A) (([.ref rh, .ref ph, .ref h, .int (nI (b)), .int (nI (q))] : List Value).toArray) s 0 0 A) (F0 m 36 ls []) := by
      intro n_36
      induction n_36 with
      | zero => intro i gg hn; exact absurd hn (Nat.not_lt_zero _)
      | succ n_36 ih_36 =>
        intro i gg hn_36 hi H locs ls hP hD hS hl
        refine lv_iload hx hb dX0_writeBlock_36 (lv_at hl 6 rfl) ?_
        refine lv_bipush (v := nI (16)) hx hb dX0_writeBlock_38 (by decide) ?_
        refine lv_icmp_ge (tgt := 86) hx hb dX0_writeBlock_40 (by decide) (fun c_4 => ?_) (fun c_4 => ?_)
        · have f_5 : (16 : Int) ≤ ((i : Nat) : Int) := (c_le (nI_toInt (n := 16) (by omega)) (nI_toInt (n := i) (by omega))).mp c_4
          have e_i : i = 16 := by omega
          replace e_i := e_i.symm
          subst e_i
          have hLB := LB_in hdf b hq.1 16
          have hAZ := AZ_LB hdf (b := b) hq.1 16
          refine lv_iload hx hb dX0_writeBlock_86 (lv_at hl 5 rfl) ?_
          refine lv_if_eq (tgt := 105) hx hb dX0_writeBlock_88 (by decide) (fun c_6 => ?_) (fun c_6 => ?_)
          · have f_7 : ¬ (mo b = 12 ∧ AZ df b q 16) := bI_0.mp c_6
            refine lv_aload_n hx hb dX0_writeBlock_105 rfl (lv_at hl 0 rfl) ?_
            refine va_get (D := gD G) (cl := vwCl) (tys := tyl G) (ci := 0) (v := .int (nI (6 + LB df b q 16))) (C := RX0) (T := TX0) (N := 2) hx hb hts (by decide +kernel) hown hC.K hP 0 rfl rfl 1 (by decide) (hts (.fieldLink RX0 15 "MotionPost$BitRow" "length" "I") (by decide +kernel)) (fun _ h9 => h9) rfl dX0_writeBlock_106 ?_
            refine lv_bipush (v := nI (66)) hx hb dX0_writeBlock_109 (by decide) ?_
            refine lv_icmp_le (tgt := 125) hx hb dX0_writeBlock_111 (by decide) (fun c_8 => ?_) (fun c_8 => ?_)
            · have f_9 : ((6 + LB df b q 16 : Nat) : Int) ≤ (66 : Int) := (c_le (nI_toInt (n := 6 + LB df b q 16) (by omega)) (nI_toInt (n := 66) (by omega))).mp c_8
              refine lv_aload_n hx hb dX0_writeBlock_125 rfl (lv_at hl 0 rfl) ?_
              refine va_get (D := gD G) (cl := vwCl) (tys := tyl G) (ci := 0) (v := .int (nI (6 + LB df b q 16))) (C := RX0) (T := TX0) (N := 2) hx hb hts (by decide +kernel) hown hC.K hP 0 rfl rfl 1 (by decide) (hts (.fieldLink RX0 15 "MotionPost$BitRow" "length" "I") (by decide +kernel)) (fun _ h9 => h9) rfl dX0_writeBlock_126 ?_
              exact xMi (G := G) (post := (fun (r : Int32) (u : (Nat → Int32) × Nat) => r = nI (btW (mo b) (LB df b q 16)))) (w1 := (fun (u : (Nat → Int32) × Nat) => [(rh, .inr (0, [.ref r1, .int (nI (u.2))])), (r1, .inl (cZ G, 166, .inl (u.1))), (ph, .inr (4, [.ref p1, .ref p2, .ref p3, .ref p5, .int (co), .int (nI (bi))])), (p1, .inl (cI G, 4, .inl (fun z9 => nI (mo z9)))), (p2, .inl (cI G, 4, .inl (fun z9 => nI (ki z9)))), (p3, .inr (3, [.ref p4])), (p4, .inl (cI G, 64, .inl (fun z9 => iI (pr z9)))), (p5, .inl (cI G, 64, .inl (fun z9 => iI (df z9)))), (h, .inr (3, [.ref q1])), (q1, .inl (cI G, 64, .inl (fun z9 => iI (f z9))))])) (((gg), (6 + LB df b q 16))) hx hb hr hlocks hP hS (by exact congrArg nI (by first | exact btB_1 hAZ (by assumption) | exact btB_2 hAZ (by assumption) (by omega) | exact btB_3 hAZ (by assumption) (by omega))) (by exact rfl) dX0_writeBlock_129
            · have f_10 : ¬ ((6 + LB df b q 16 : Nat) : Int) ≤ (66 : Int) := fun z => c_8 ((c_le (nI_toInt (n := 6 + LB df b q 16) (by omega)) (nI_toInt (n := 66) (by omega))).mpr z)
              refine lv_aload_n hx hb dX0_writeBlock_114 rfl (lv_at hl 0 rfl) ?_
              refine lv_iconst (v := nI (0)) hx hb dX0_writeBlock_115 (by decide) ?_
              refine va_put (D := gD G) (cl := vwCl) (tys := tyl G) (ci := 0) (v := .int (nI (0))) (ty := .int) (C := RX0) (T := TX0) (N := 2) hx hb hts (by decide +kernel) tyX0 tyX0_ok nmX0 hown hC.K hP hD hS 0 rfl rfl 1 (by decide) (hts (.fieldLink RX0 15 "MotionPost$BitRow" "length" "I") (by decide +kernel)) (fun _ h9 => h9) rfl (by decide +kernel) (rfl) rfl (Nat.le_of_ble_eq_true rfl) dX0_writeBlock_116 (fun H locs hP hD hS => ?_)
              have hP : PP G ([(rh, .inr (0, [.ref r1, .int (nI (0))])), (r1, .inl (cZ G, 166, .inl (gg))), (ph, .inr (4, [.ref p1, .ref p2, .ref p3, .ref p5, .int (co), .int (nI (bi))])), (p1, .inl (cI G, 4, .inl (fun z9 => nI (mo z9)))), (p2, .inl (cI G, 4, .inl (fun z9 => nI (ki z9)))), (p3, .inr (3, [.ref p4])), (p4, .inl (cI G, 64, .inl (fun z9 => iI (pr z9)))), (p5, .inl (cI G, 64, .inl (fun z9 => iI (df z9)))), (h, .inr (3, [.ref q1])), (q1, .inl (cI G, 64, .inl (fun z9 => iI (f z9))))]) H := hP
              have hD : va_D A ([(rh, .inr (0, [.ref r1, .int (nI (0))])), (r1, .inl (cZ G, 166, .inl (gg))), (ph, .inr (4, [.ref p1, .ref p2, .ref p3, .ref p5, .int (co), .int (nI (bi))])), (p1, .inl (cI G, 4, .inl (fun z9 => nI (mo z9)))), (p2, .inl (cI G, 4, .inl (fun z9 => nI (ki z9)))), (p3, .inr (3, [.ref p4])), (p4, .inl (cI G, 64, .inl (fun z9 => iI (pr z9)))), (p5, .inl (cI G, 64, .inl (fun z9 => iI (df z9)))), (h, .inr (3, [.ref q1])), (q1, .inl (cI G, 64, .inl (fun z9 => iI (f z9))))]) := hD
              refine lv_aload_n hx hb dX0_writeBlock_119 rfl (lv_at hl 0 rfl) ?_
              refine lv_aload_n hx hb dX0_writeBlock_120 rfl (lv_at hl 2 rfl) ?_
              refine lv_iload_n hx hb dX0_writeBlock_121 rfl (lv_at hl 3 rfl) ?_
              refine kMv (va_runV (As := [.ref h, .int (nI (b))]) (rest := []) ⟨hx, hb, hml, hown, hts⟩ (c_X0_writeRaw rh r1 gg 0 h q1 f b (by first | assumption | omega) (by first | assumption | omega) (hP.sub [0, 1, 8, 9] rfl) ((hD.sub [0, 1, 8, 9] (by decide) rfl).weaken (fun _ _ _ h => hLo _ h))) (cwV 2 hts gX0_writeBlock_X0_writeRaw rfl rfl rfl (by decide +kernel) ⟨Nat.le_of_ble_eq_true rfl, Nat.le_of_ble_eq_true rfl⟩) (preV hC hS hLo hP (ci := 0) (q0 := 0) rfl rfl) rfl rfl hl.1 rfl (lv_room (Nat.le_of_ble_eq_true rfl)) dX0_writeBlock_122 ⟨Nat.zero_le _, Nat.zero_le _⟩) hP hD hS hA [0, 1, 8, 9] (by decide) rfl (fun _ => rfl) (fun u_11 H locs q_12 hP hD hS => ?_)
              have hP : PP G ([(rh, .inr (0, [.ref r1, .int (nI (0 + 66))])), (r1, .inl (cZ G, 166, .inl (u_11))), (ph, .inr (4, [.ref p1, .ref p2, .ref p3, .ref p5, .int (co), .int (nI (bi))])), (p1, .inl (cI G, 4, .inl (fun z9 => nI (mo z9)))), (p2, .inl (cI G, 4, .inl (fun z9 => nI (ki z9)))), (p3, .inr (3, [.ref p4])), (p4, .inl (cI G, 64, .inl (fun z9 => iI (pr z9)))), (p5, .inl (cI G, 64, .inl (fun z9 => iI (df z9)))), (h, .inr (3, [.ref q1])), (q1, .inl (cI G, 64, .inl (fun z9 => iI (f z9))))]) H := hP
              have hD : va_D A ([(rh, .inr (0, [.ref r1, .int (nI (0 + 66))])), (r1, .inl (cZ G, 166, .inl (u_11))), (ph, .inr (4, [.ref p1, .ref p2, .ref p3, .ref p5, .int (co), .int (nI (bi))])), (p1, .inl (cI G, 4, .inl (fun z9 => nI (mo z9)))), (p2, .inl (cI G, 4, .inl (fun z9 => nI (ki z9)))), (p3, .inr (3, [.ref p4])), (p4, .inl (cI G, 64, .inl (fun z9 => iI (pr z9)))), (p5, .inl (cI G, 64, .inl (fun z9 => iI (df z9)))), (h, .inr (3, [.ref q1])), (q1, .inl (cI G, 64, .inl (fun z9 => iI (f z9))))]) := hD
              refine lv_aload_n hx hb dX0_writeBlock_125 rfl (lv_at hl 0 rfl) ?_
              refine va_get (D := gD G) (cl := vwCl) (tys := tyl G) (ci := 0) (v := .int (nI (0 + 66))) (C := RX0) (T := TX0) (N := 2) hx hb hts (by decide +kernel) hown hC.K hP 0 rfl rfl 1 (by decide) (hts (.fieldLink RX0 15 "MotionPost$BitRow" "length" "I") (by decide +kernel)) (fun _ h9 => h9) rfl dX0_writeBlock_126 ?_
              exact xMi (G := G) (post := (fun (r : Int32) (u : (Nat → Int32) × Nat) => r = nI (btW (mo b) (LB df b q 16)))) (w1 := (fun (u : (Nat → Int32) × Nat) => [(rh, .inr (0, [.ref r1, .int (nI (u.2))])), (r1, .inl (cZ G, 166, .inl (u.1))), (ph, .inr (4, [.ref p1, .ref p2, .ref p3, .ref p5, .int (co), .int (nI (bi))])), (p1, .inl (cI G, 4, .inl (fun z9 => nI (mo z9)))), (p2, .inl (cI G, 4, .inl (fun z9 => nI (ki z9)))), (p3, .inr (3, [.ref p4])), (p4, .inl (cI G, 64, .inl (fun z9 => iI (pr z9)))), (p5, .inl (cI G, 64, .inl (fun z9 => iI (df z9)))), (h, .inr (3, [.ref q1])), (q1, .inl (cI G, 64, .inl (fun z9 => iI (f z9))))])) (((u_11), (0 + 66))) hx hb hr hlocks hP hS (by exact congrArg nI (by first | exact btB_1 hAZ (by assumption) | exact btB_2 hAZ (by assumption) (by omega) | exact btB_3 hAZ (by assumption) (by omega))) (by exact rfl) dX0_writeBlock_129
          · have f_14 : (mo b = 12 ∧ AZ df b q 16) := Classical.byContradiction (fun z => c_6 (bI_0.mpr z))
            refine lv_aload_n hx hb dX0_writeBlock_91 rfl (lv_at hl 0 rfl) ?_
            refine lv_iconst (v := nI (0)) hx hb dX0_writeBlock_92 (by decide) ?_
            refine va_put (D := gD G) (cl := vwCl) (tys := tyl G) (ci := 0) (v := .int (nI (0))) (ty := .int) (C := RX0) (T := TX0) (N := 2) hx hb hts (by decide +kernel) tyX0 tyX0_ok nmX0 hown hC.K hP hD hS 0 rfl rfl 1 (by decide) (hts (.fieldLink RX0 15 "MotionPost$BitRow" "length" "I") (by decide +kernel)) (fun _ h9 => h9) rfl (by decide +kernel) (rfl) rfl (Nat.le_of_ble_eq_true rfl) dX0_writeBlock_93 (fun H locs hP hD hS => ?_)
            have hP : PP G ([(rh, .inr (0, [.ref r1, .int (nI (0))])), (r1, .inl (cZ G, 166, .inl (gg))), (ph, .inr (4, [.ref p1, .ref p2, .ref p3, .ref p5, .int (co), .int (nI (bi))])), (p1, .inl (cI G, 4, .inl (fun z9 => nI (mo z9)))), (p2, .inl (cI G, 4, .inl (fun z9 => nI (ki z9)))), (p3, .inr (3, [.ref p4])), (p4, .inl (cI G, 64, .inl (fun z9 => iI (pr z9)))), (p5, .inl (cI G, 64, .inl (fun z9 => iI (df z9)))), (h, .inr (3, [.ref q1])), (q1, .inl (cI G, 64, .inl (fun z9 => iI (f z9))))]) H := hP
            have hD : va_D A ([(rh, .inr (0, [.ref r1, .int (nI (0))])), (r1, .inl (cZ G, 166, .inl (gg))), (ph, .inr (4, [.ref p1, .ref p2, .ref p3, .ref p5, .int (co), .int (nI (bi))])), (p1, .inl (cI G, 4, .inl (fun z9 => nI (mo z9)))), (p2, .inl (cI G, 4, .inl (fun z9 => nI (ki z9)))), (p3, .inr (3, [.ref p4])), (p4, .inl (cI G, 64, .inl (fun z9 => iI (pr z9)))), (p5, .inl (cI G, 64, .inl (fun z9 => iI (df z9)))), (h, .inr (3, [.ref q1])), (q1, .inl (cI G, 64, .inl (fun z9 => iI (f z9))))]) := hD
            refine lv_aload_n hx hb dX0_writeBlock_96 rfl (lv_at hl 0 rfl) ?_
            refine lv_iconst (v := nI (1)) hx hb dX0_writeBlock_97 (by decide) ?_
            refine lv_iconst (v := nI (1)) hx hb dX0_writeBlock_98 (by decide) ?_
            refine kMv (va_runV (As := [.int (nI (1)), .int (nI (1))]) (rest := []) ⟨hx, hb, hml, hown, hts⟩ (c_X0_writeNumber rh r1 gg 0 (nI (1)) 1 (by first | assumption | omega) (hP.sub [0, 1] rfl) ((hD.sub [0, 1] (by decide) rfl).weaken (fun _ _ _ h => hLo _ h))) (cwV 2 hts gX0_writeBlock_X0_writeNumber rfl rfl rfl (by decide +kernel) ⟨Nat.le_of_ble_eq_true rfl, Nat.le_of_ble_eq_true rfl⟩) (preV hC hS hLo hP (ci := 0) (q0 := 0) rfl rfl) rfl rfl hl.1 rfl (lv_room (Nat.le_of_ble_eq_true rfl)) dX0_writeBlock_99 ⟨Nat.zero_le _, Nat.zero_le _⟩) hP hD hS hA [0, 1] (by decide) rfl (fun _ => rfl) (fun u_15 H locs q_16 hP hD hS => ?_)
            have hP : PP G ([(rh, .inr (0, [.ref r1, .int (nI (0 + 1))])), (r1, .inl (cZ G, 166, .inl (u_15))), (ph, .inr (4, [.ref p1, .ref p2, .ref p3, .ref p5, .int (co), .int (nI (bi))])), (p1, .inl (cI G, 4, .inl (fun z9 => nI (mo z9)))), (p2, .inl (cI G, 4, .inl (fun z9 => nI (ki z9)))), (p3, .inr (3, [.ref p4])), (p4, .inl (cI G, 64, .inl (fun z9 => iI (pr z9)))), (p5, .inl (cI G, 64, .inl (fun z9 => iI (df z9)))), (h, .inr (3, [.ref q1])), (q1, .inl (cI G, 64, .inl (fun z9 => iI (f z9))))]) H := hP
            have hD : va_D A ([(rh, .inr (0, [.ref r1, .int (nI (0 + 1))])), (r1, .inl (cZ G, 166, .inl (u_15))), (ph, .inr (4, [.ref p1, .ref p2, .ref p3, .ref p5, .int (co), .int (nI (bi))])), (p1, .inl (cI G, 4, .inl (fun z9 => nI (mo z9)))), (p2, .inl (cI G, 4, .inl (fun z9 => nI (ki z9)))), (p3, .inr (3, [.ref p4])), (p4, .inl (cI G, 64, .inl (fun z9 => iI (pr z9)))), (p5, .inl (cI G, 64, .inl (fun z9 => iI (df z9)))), (h, .inr (3, [.ref q1])), (q1, .inl (cI G, 64, .inl (fun z9 => iI (f z9))))]) := hD
            refine lv_goto (tgt := 125) hx hb dX0_writeBlock_102 (by decide) ?_
            refine lv_aload_n hx hb dX0_writeBlock_125 rfl (lv_at hl 0 rfl) ?_
            refine va_get (D := gD G) (cl := vwCl) (tys := tyl G) (ci := 0) (v := .int (nI (0 + 1))) (C := RX0) (T := TX0) (N := 2) hx hb hts (by decide +kernel) hown hC.K hP 0 rfl rfl 1 (by decide) (hts (.fieldLink RX0 15 "MotionPost$BitRow" "length" "I") (by decide +kernel)) (fun _ h9 => h9) rfl dX0_writeBlock_126 ?_
            exact xMi (G := G) (post := (fun (r : Int32) (u : (Nat → Int32) × Nat) => r = nI (btW (mo b) (LB df b q 16)))) (w1 := (fun (u : (Nat → Int32) × Nat) => [(rh, .inr (0, [.ref r1, .int (nI (u.2))])), (r1, .inl (cZ G, 166, .inl (u.1))), (ph, .inr (4, [.ref p1, .ref p2, .ref p3, .ref p5, .int (co), .int (nI (bi))])), (p1, .inl (cI G, 4, .inl (fun z9 => nI (mo z9)))), (p2, .inl (cI G, 4, .inl (fun z9 => nI (ki z9)))), (p3, .inr (3, [.ref p4])), (p4, .inl (cI G, 64, .inl (fun z9 => iI (pr z9)))), (p5, .inl (cI G, 64, .inl (fun z9 => iI (df z9)))), (h, .inr (3, [.ref q1])), (q1, .inl (cI G, 64, .inl (fun z9 => iI (f z9))))])) (((u_15), (0 + 1))) hx hb hr hlocks hP hS (by exact congrArg nI (by first | exact btB_1 hAZ (by assumption) | exact btB_2 hAZ (by assumption) (by omega) | exact btB_3 hAZ (by assumption) (by omega))) (by exact rfl) dX0_writeBlock_129
        · have f_18 : ¬ (16 : Int) ≤ ((i : Nat) : Int) := fun z => c_4 ((c_le (nI_toInt (n := 16) (by omega)) (nI_toInt (n := i) (by omega))).mpr z)
          refine lv_aload_n hx hb dX0_writeBlock_43 rfl (lv_at hl 1 rfl) ?_
          refine lv_iload_n hx hb dX0_writeBlock_44 rfl (lv_at hl 3 rfl) ?_
          refine lv_iload hx hb dX0_writeBlock_45 (lv_at hl 6 rfl) ?_
          have hpx := px_lt hb4 (by omega : i < 16)
          have hlv := lv_in (hdf (px b i)) hq.1
          have hLB := LB_in hdf b hq.1 i
          refine kPi (va_runSN (As := [.int (nI (b)), .int (nI (i))]) (rest := [.ref ph]) ⟨hx, hb, hml, hown, hts⟩ (c_X8_pixelIn b i (by first | assumption | omega) (by first | assumption | omega)) ⟨va_cnB 2 hts gX0_writeBlock_X8_pixelIn_n29 rfl rfl rfl (hC.nest 69 rfl) (hts (.initialized RX8) (by decide +kernel)) (by decide +kernel) ⟨Nat.le_of_ble_eq_true rfl, Nat.le_of_ble_eq_true rfl⟩, (hts (.static yX8_pixelIn) (by decide +kernel)), trivial⟩ (preS hC hS hLo) rfl rfl hl.1 rfl (lv_room (Nat.le_of_ble_eq_true rfl)) dX0_writeBlock_47 ⟨Nat.zero_le _, Nat.zero_le _⟩) hS (fun locs hS => ?_)
          refine lv_iload hx hb dX0_writeBlock_50 (lv_at hl 4 rfl) ?_
          refine kPi (va_runVN (As := [.int (nI (px b i)), .int (nI (q))]) (rest := []) ⟨hx, hb, hml, hown, hts⟩ (c_X5_levelAt ph p1 p2 p3 p4 p5 mo ki pr df co bi (px b i) q (by first | assumption | omega) (by first | assumption | omega) (by first | assumption | omega) (hP.sub [2, 3, 4, 5, 6, 7] rfl)) ⟨va_cnB 2 hts gX0_writeBlock_X5_levelAt_n33 rfl rfl rfl (hC.nest 70 rfl) (hts (.initialized RX5) (by decide +kernel)) (by decide +kernel) ⟨Nat.le_of_ble_eq_true rfl, Nat.le_of_ble_eq_true rfl⟩, (hts (.instanceMethod yX5_levelAt) (by decide +kernel)), (hts (.selects RX5 yX5_levelAt yX5_levelAt) (by decide +kernel))⟩ (preV hC hS hLo hP (ci := 4) (q0 := 2) rfl rfl) rfl rfl hl.1 rfl (lv_room (Nat.le_of_ble_eq_true rfl)) dX0_writeBlock_52 ⟨Nat.zero_le _, Nat.zero_le _⟩) hS (fun locs hS => ?_)
          refine lv_istore (lv' := [(7, .int (iI (lv (df (px b i)) q))), (0, .ref rh), (1, .ref ph), (2, .ref h), (3, .int (nI (b))), (4, .int (nI (q))), (5, .int (bI (mo b = 12 ∧ AZ df b q i))), (6, .int (nI (i)))]) hx hb dX0_writeBlock_55 hl (by decide) rfl (fun ls hl => ?_)
          refine lv_aload_n hx hb dX0_writeBlock_57 rfl (lv_at hl 1 rfl) ?_
          refine lv_iload hx hb dX0_writeBlock_58 (lv_at hl 0 rfl) ?_
          refine kMv (va_runV (As := [.int (iI (lv (df (px b i)) q))]) (rest := []) ⟨hx, hb, hml, hown, hts⟩ (c_X0_writeLevel rh r1 gg (6 + LB df b q i) (lv (df (px b i)) q) (by first | assumption | omega) (by first | assumption | omega) (hP.sub [0, 1] rfl) ((hD.sub [0, 1] (by decide) rfl).weaken (fun _ _ _ h => hLo _ h))) (cwV 1 hts gX0_writeBlock_X0_writeLevel rfl rfl rfl (by decide +kernel) ⟨Nat.le_of_ble_eq_true rfl, Nat.le_of_ble_eq_true rfl⟩) (preV hC hS hLo hP (ci := 0) (q0 := 0) rfl rfl) rfl rfl hl.1 rfl (lv_room (Nat.le_of_ble_eq_true rfl)) dX0_writeBlock_60 ⟨Nat.zero_le _, Nat.zero_le _⟩) hP hD hS hA [0, 1] (by decide) rfl (fun _ => rfl) (fun u_19 H locs q_20 hP hD hS => ?_)
          have hP : PP G ([(rh, .inr (0, [.ref r1, .int (nI ((6 + LB df b q i) + lbits (lv (df (px b i)) q)))])), (r1, .inl (cZ G, 166, .inl (u_19))), (ph, .inr (4, [.ref p1, .ref p2, .ref p3, .ref p5, .int (co), .int (nI (bi))])), (p1, .inl (cI G, 4, .inl (fun z9 => nI (mo z9)))), (p2, .inl (cI G, 4, .inl (fun z9 => nI (ki z9)))), (p3, .inr (3, [.ref p4])), (p4, .inl (cI G, 64, .inl (fun z9 => iI (pr z9)))), (p5, .inl (cI G, 64, .inl (fun z9 => iI (df z9)))), (h, .inr (3, [.ref q1])), (q1, .inl (cI G, 64, .inl (fun z9 => iI (f z9))))]) H := hP
          have hD : va_D A ([(rh, .inr (0, [.ref r1, .int (nI ((6 + LB df b q i) + lbits (lv (df (px b i)) q)))])), (r1, .inl (cZ G, 166, .inl (u_19))), (ph, .inr (4, [.ref p1, .ref p2, .ref p3, .ref p5, .int (co), .int (nI (bi))])), (p1, .inl (cI G, 4, .inl (fun z9 => nI (mo z9)))), (p2, .inl (cI G, 4, .inl (fun z9 => nI (ki z9)))), (p3, .inr (3, [.ref p4])), (p4, .inl (cI G, 64, .inl (fun z9 => iI (pr z9)))), (p5, .inl (cI G, 64, .inl (fun z9 => iI (df z9)))), (h, .inr (3, [.ref q1])), (q1, .inl (cI G, 64, .inl (fun z9 => iI (f z9))))]) := hD
          have J_78 : ∀ (locs : List Loc) (ls : Array Slot), va_S A s.heap H locs → lv_has ls 8 [(0, .ref rh), (1, .ref ph), (2, .ref h), (3, .int (nI (b))), (4, .int (nI (q))), (5, .int (bI (mo b = 12 ∧ AZ df b q i))), (6, .int (nI (i))), (7, .int (iI (lv (df (px b i)) q)))] → W pg l ev ({ frames := 3, cells := 0, slots := 0, locals := 68 } : Room) s m (([.ref rh, .ref ph, .ref h, .int (nI (b)), .int (nI (q))] : List Value).toArray) below meth c H locs 0 0 (MQ below (va_Qi (fun (r : Int32) (u : (Nat → Int32) × Nat) => r = nI (btW (mo b) (LB df b q 16))) (fun (u : (Nat → Int32) × Nat) t9 => PP G ([(rh, .inr (0, [.ref r1, .int (nI (u.2))])), (r1, .inl (cZ G, 166, .inl (u.1))), (ph, .inr (4, [.ref p1, .ref p2, .ref p3, .ref p5, .int (co), .int (nI (bi))])), (p1, .inl (cI G, 4, .inl (fun z9 => nI (mo z9)))), (p2, .inl (cI G, 4, .inl (fun z9 => nI (ki z9)))), (p3, .inr (3, [.ref p4])), (p4, .inl (cI G, 64, .inl (fun z9 => iI (pr z9)))), (p5, .inl (cI G, 64, .inl (fun z9 => iI (df z9)))), (h, .inr (3, [.ref q1])), (q1, .inl (cI G, 64, .inl (fun z9 => iI (f z9))))]) t9.heap) A) (([.ref rh, .ref ph, .ref h, .int (nI (b)), .int (nI (q))] : List Value).toArray) s 0 0 A) (F0 m 78 ls [.int (bI (mo b = 12 ∧ AZ df b q (i + 1)))]) := by
            intro locs ls hS hl
            refine lv_istore (lv' := [(5, .int (bI (mo b = 12 ∧ AZ df b q (i + 1)))), (0, .ref rh), (1, .ref ph), (2, .ref h), (3, .int (nI (b))), (4, .int (nI (q))), (6, .int (nI (i))), (7, .int (iI (lv (df (px b i)) q)))]) hx hb dX0_writeBlock_78 hl (by decide) rfl (fun ls hl => ?_)
            refine lv_iinc (v := nI (i + 1)) (lv' := [(6, .int (nI (i + 1))), (5, .int (bI (mo b = 12 ∧ AZ df b q (i + 1)))), (0, .ref rh), (1, .ref ph), (2, .ref h), (3, .int (nI (b))), (4, .int (nI (q))), (7, .int (iI (lv (df (px b i)) q)))]) hx hb dX0_writeBlock_80 hl (k := 6) rfl (inc_p i 1) (by decide) rfl (fun ls hl => ?_)
            refine lv_goto (tgt := 36) hx hb dX0_writeBlock_83 (by decide) ?_
            have ew : 6 + LB df b q i + lbits (lv (df (px b i)) q) = 6 + LB df b q (i + 1) := by show _ = 6 + (LB df b q i + lbits (lv (df (px b i)) q)); omega
            rw [ew] at hP hD
            exact ih_36 (i + 1) (u_19) (by omega) (by omega) H locs ls hP hD hS (lv_sub hl [2, 3, 4, 5, 6, 1, 0] ((lvc rfl (lvc rfl (lvc rfl (lvc rfl (lvc rfl (lvc rfl (lvc rfl rfl)))))))))
          refine lv_iload hx hb dX0_writeBlock_63 (lv_at hl 6 rfl) ?_
          refine lv_if_eq (tgt := 77) hx hb dX0_writeBlock_65 (by decide) (fun c_22 => ?_) (fun c_22 => ?_)
          · have f_23 : ¬ (mo b = 12 ∧ AZ df b q i) := bI_0.mp c_22
            refine lv_iconst (v := nI (0)) hx hb dX0_writeBlock_77 (by decide) ?_
            refine topE (v' := bI (mo b = 12 ∧ AZ df b q (i + 1))) ((bI_f (fun z => f_23 ⟨z.1, AZ_d z.2⟩)).symm) ?_
            exact J_78 locs ls hS (lv_sub hl [1, 2, 3, 4, 5, 6, 7, 0] (rfl))
          · have f_24 : (mo b = 12 ∧ AZ df b q i) := Classical.byContradiction (fun z => c_22 (bI_0.mpr z))
            refine lv_iload hx hb dX0_writeBlock_68 (lv_at hl 0 rfl) ?_
            refine lv_if_ne (tgt := 77) hx hb dX0_writeBlock_70 (by decide) (fun c_25 => ?_) (fun c_25 => ?_)
            · have f_26 : ¬ (lv (df (px b i)) q) = (0 : Int) := fun z => c_25 ((c_eq (iI_toInt (by omega) (by omega)) rfl).mpr z)
              refine lv_iconst (v := nI (0)) hx hb dX0_writeBlock_77 (by decide) ?_
              refine topE (v' := bI (mo b = 12 ∧ AZ df b q (i + 1))) ((bI_f (fun z => f_26 (z.2 i (Nat.lt_succ_self i)))).symm) ?_
              exact J_78 locs ls hS (lv_sub hl [1, 2, 3, 4, 5, 6, 7, 0] (rfl))
            · have f_27 : (lv (df (px b i)) q) = (0 : Int) := (c_eq (iI_toInt (by omega) (by omega)) rfl).mp c_25
              refine lv_iconst (v := nI (1)) hx hb dX0_writeBlock_73 (by decide) ?_
              refine lv_goto (tgt := 78) hx hb dX0_writeBlock_74 (by decide) ?_
              refine topE (v' := bI (mo b = 12 ∧ AZ df b q (i + 1))) ((bI_t ⟨f_24.1, AZ_s f_24.2 (by omega)⟩).symm) ?_
              exact J_78 locs ls hS (lv_sub hl [1, 2, 3, 4, 5, 6, 7, 0] (rfl))
    exact L_36 (16 + 1) 0 (u_1) (Nat.lt_succ_self _) (by omega) H locs ls hP hD hS (lv_sub hl [2, 3, 4, 5, 6, 1, 0] (lvc rfl (lvc rfl (lvc rfl (lvc rfl (lvc rfl (lvc rfl (lvc rfl rfl))))))))
  refine kPi (va_runVN (As := [.int (nI (b))]) (rest := []) ⟨hx, hb, hml, hown, hts⟩ (c_X5_moveOf ph p1 p2 p3 p4 p5 mo ki pr df co bi b (by first | assumption | omega) (hP.sub [2, 3, 4, 5, 6, 7] rfl)) ⟨va_cnB 1 hts gX0_writeBlock_X5_moveOf_n19 rfl rfl rfl (hC.nest 68 rfl) (hts (.initialized RX5) (by decide +kernel)) (by decide +kernel) ⟨Nat.le_of_ble_eq_true rfl, Nat.le_of_ble_eq_true rfl⟩, (hts (.instanceMethod yX5_moveOf) (by decide +kernel)), (hts (.selects RX5 yX5_moveOf yX5_moveOf) (by decide +kernel))⟩ (preV hC hS hLo hP (ci := 4) (q0 := 2) rfl rfl) rfl rfl hl.1 rfl (lv_room (Nat.le_of_ble_eq_true rfl)) dX0_writeBlock_2 ⟨Nat.zero_le _, Nat.zero_le _⟩) hS (fun locs hS => ?_)
  have hmb := hmo b
  refine lv_bipush (v := nI (12)) hx hb dX0_writeBlock_5 (by decide) ?_
  refine lv_icmp_ne (tgt := 14) hx hb dX0_writeBlock_7 (by decide) (fun c_28 => ?_) (fun c_28 => ?_)
  · have f_29 : ¬ ((mo b : Nat) : Int) = (12 : Int) := fun z => c_28 ((c_eq (nI_toInt (n := mo b) (by omega)) (nI_toInt (n := 12) (by omega))).mpr z)
    refine lv_iconst (v := nI (0)) hx hb dX0_writeBlock_14 (by decide) ?_
    refine topE (v' := bI (mo b = 12 ∧ AZ df b q 0)) (by first | exact (bI_t ⟨by omega, AZ_0 df b q⟩).symm | exact (bI_f (fun z => by omega)).symm) ?_
    exact J_15 locs ls hS (lv_sub hl [0, 1, 2, 3, 4] (rfl))
  · have f_30 : ((mo b : Nat) : Int) = (12 : Int) := (c_eq (nI_toInt (n := mo b) (by omega)) (nI_toInt (n := 12) (by omega))).mp c_28
    refine lv_iconst (v := nI (1)) hx hb dX0_writeBlock_10 (by decide) ?_
    refine lv_goto (tgt := 15) hx hb dX0_writeBlock_11 (by decide) ?_
    refine topE (v' := bI (mo b = 12 ∧ AZ df b q 0)) (by first | exact (bI_t ⟨by omega, AZ_0 df b q⟩).symm | exact (bI_f (fun z => by omega)).symm) ?_
    exact J_15 locs ls hS (lv_sub hl [0, 1, 2, 3, 4] (rfl))

set_option maxHeartbeats 4000000 in
set_option maxRecDepth 100000 in
theorem c_X1_signAt {l : Launch} {G : GT} {H0 : Heap} (th t1 : Nat) (tn : Nat → Nat) (ln : Nat) (i : Nat) (htn : T128 tn) (hln : ln ≤ 80) (hi9 : i ≤ 2147483647) (hP0 : PP G ([(th, .inr (1, [.ref t1, .int (nI (ln))])), (t1, .inl (cC G, 80, .inl (fun z9 => nI (tn z9))))]) H0) : Met l yX1_signAt wsX1_signAt ({ frames := 0, cells := 0, slots := 0, locals := 0 } : Room) (pcG G [.ref th, .int (nI (i))] H0) (qPi (nI (sgn tn ln i)) H0) 0 0 noF := by
  refine enter (cc := cX1_signAt) (maxL := 2) (ret := some .char) (own := RX1) (lv := [(0, .ref th), (1, .int (nI (i)))]) (by decide) rfl rfl rfl (Nat.le_of_ble_eq_true rfl) ?_
  intro pg ev s m below meth c hx hb hr hts hown hlocks hml hnm hH hC ls hl
  subst hH
  have hLo : ∀ q, noF q → lo G q := fun _ h => h.elim
  have hS : va_S noF s.heap s.heap [] := va_S.rf
  generalize ([] : List Loc) = locs at hS ⊢
  have hP := hP0
  refine lv_iload_n hx hb dX1_signAt_0 rfl (lv_at hl 1 rfl) ?_
  refine lv_if_lt (tgt := 18) hx hb dX1_signAt_1 (by decide) (fun c_1 => ?_) (fun c_1 => ?_)
  · have f_2 : ((i : Nat) : Int) < (0 : Int) := (c_lt (nI_toInt (n := i) (by omega)) rfl).mp c_1
    exfalso; omega
  · have f_3 : ¬ ((i : Nat) : Int) < (0 : Int) := fun z => c_1 ((c_lt (nI_toInt (n := i) (by omega)) rfl).mpr z)
    refine lv_iload_n hx hb dX1_signAt_4 rfl (lv_at hl 1 rfl) ?_
    refine lv_aload_n hx hb dX1_signAt_5 rfl (lv_at hl 0 rfl) ?_
    refine va_get (D := gD G) (cl := vwCl) (tys := tyl G) (ci := 1) (v := .int (nI (ln))) (C := RX1) (T := TX1) (N := 2) hx hb hts (by decide +kernel) hown hC.K hP 0 rfl rfl 1 (by decide) (hts (.fieldLink RX1 15 "MotionPost$CommandText" "length" "I") (by decide +kernel)) (fun _ h9 => h9) rfl dX1_signAt_6 ?_
    refine lv_icmp_ge (tgt := 18) hx hb dX1_signAt_9 (by decide) (fun c_4 => ?_) (fun c_4 => ?_)
    · have f_5 : ((ln : Nat) : Int) ≤ ((i : Nat) : Int) := (c_le (nI_toInt (n := ln) (by omega)) (nI_toInt (n := i) (by omega))).mp c_4
      refine lv_bipush (v := nI (59)) hx hb dX1_signAt_18 (by decide) ?_
      refine lv_goto (tgt := 29) hx hb dX1_signAt_20 (by decide) ?_
      exact xPi hx hb hr hlocks hS (by exact (by first | exact congrArg nI (sgn_in (by omega)) | exact congrArg nI (sgn_out (by omega)))) (by exact (pk_charN (by first | decide | (have := htn i; omega))).1) dX1_signAt_29
    · have f_6 : ¬ ((ln : Nat) : Int) ≤ ((i : Nat) : Int) := fun z => c_4 ((c_le (nI_toInt (n := ln) (by omega)) (nI_toInt (n := i) (by omega))).mpr z)
      refine lv_iload_n hx hb dX1_signAt_12 rfl (lv_at hl 1 rfl) ?_
      refine lv_bipush (v := nI (80)) hx hb dX1_signAt_13 (by decide) ?_
      refine lv_icmp_lt (tgt := 23) hx hb dX1_signAt_15 (by decide) (fun c_7 => ?_) (fun c_7 => ?_)
      · have f_8 : ((i : Nat) : Int) < (80 : Int) := (c_lt (nI_toInt (n := i) (by omega)) (nI_toInt (n := 80) (by omega))).mp c_7
        refine lv_aload_n hx hb dX1_signAt_23 rfl (lv_at hl 0 rfl) ?_
        refine va_get (D := gD G) (cl := vwCl) (tys := tyl G) (ci := 1) (v := .ref t1) (C := RX1) (T := TX1) (N := 2) hx hb hts (by decide +kernel) hown hC.K hP 0 rfl rfl 0 (by decide) (hts (.fieldLink RX1 9 "MotionPost$CommandText" "signs" "[C") (by decide +kernel)) (fun _ h9 => h9) rfl dX1_signAt_24 ?_
        refine lv_iload_n hx hb dX1_signAt_27 rfl (lv_at hl 1 rfl) ?_
        refine gCald (j := i) hx hb hC.K hP 1 2 rfl rfl (rfl) (by omega) (by decide) dX1_signAt_28 ?_
        exact xPi hx hb hr hlocks hS (by exact (by first | exact congrArg nI (sgn_in (by omega)) | exact congrArg nI (sgn_out (by omega)))) (by exact (pk_charN (by first | decide | (have := htn i; omega))).1) dX1_signAt_29
      · have f_9 : ¬ ((i : Nat) : Int) < (80 : Int) := fun z => c_7 ((c_lt (nI_toInt (n := i) (by omega)) (nI_toInt (n := 80) (by omega))).mpr z)
        exfalso; omega

set_option maxHeartbeats 4000000 in
set_option maxRecDepth 100000 in
theorem c_X1_isDigit {l : Launch} {G : GT} {H0 : Heap} (sg : Nat) (hsg : sg < 128) : Met l yX1_isDigit wsX1_isDigit ({ frames := 0, cells := 0, slots := 0, locals := 0 } : Room) (pcG G [.int (nI (sg))] H0) (qPi (bI (isDg sg)) H0) 0 0 noF := by
  refine enter (cc := cX1_isDigit) (maxL := 1) (ret := some .boolean) (own := RX1) (lv := [(0, .int (nI (sg)))]) (by decide) rfl rfl rfl (Nat.le_of_ble_eq_true rfl) ?_
  intro pg ev s m below meth c hx hb hr hts hown hlocks hml hnm hH hC ls hl
  subst hH
  have hLo : ∀ q, noF q → lo G q := fun _ h => h.elim
  have hS : va_S noF s.heap s.heap [] := va_S.rf
  generalize ([] : List Loc) = locs at hS ⊢
  refine lv_iload_n hx hb dX1_isDigit_0 rfl (lv_at hl 0 rfl) ?_
  refine lv_bipush (v := nI (48)) hx hb dX1_isDigit_1 (by decide) ?_
  refine lv_icmp_lt (tgt := 16) hx hb dX1_isDigit_3 (by decide) (fun c_1 => ?_) (fun c_1 => ?_)
  · have f_2 : ((sg : Nat) : Int) < (48 : Int) := (c_lt (nI_toInt (n := sg) (by omega)) (nI_toInt (n := 48) (by omega))).mp c_1
    refine lv_iconst (v := nI (0)) hx hb dX1_isDigit_16 (by decide) ?_
    exact xPi hx hb hr hlocks hS (by exact (by first | exact (bI_t (by omega)).symm | exact (bI_f (by omega)).symm)) (by exact rfl) dX1_isDigit_17
  · have f_3 : ¬ ((sg : Nat) : Int) < (48 : Int) := fun z => c_1 ((c_lt (nI_toInt (n := sg) (by omega)) (nI_toInt (n := 48) (by omega))).mpr z)
    refine lv_iload_n hx hb dX1_isDigit_6 rfl (lv_at hl 0 rfl) ?_
    refine lv_bipush (v := nI (57)) hx hb dX1_isDigit_7 (by decide) ?_
    refine lv_icmp_gt (tgt := 16) hx hb dX1_isDigit_9 (by decide) (fun c_4 => ?_) (fun c_4 => ?_)
    · have f_5 : (57 : Int) < ((sg : Nat) : Int) := (c_lt (nI_toInt (n := 57) (by omega)) (nI_toInt (n := sg) (by omega))).mp c_4
      refine lv_iconst (v := nI (0)) hx hb dX1_isDigit_16 (by decide) ?_
      exact xPi hx hb hr hlocks hS (by exact (by first | exact (bI_t (by omega)).symm | exact (bI_f (by omega)).symm)) (by exact rfl) dX1_isDigit_17
    · have f_6 : ¬ (57 : Int) < ((sg : Nat) : Int) := fun z => c_4 ((c_lt (nI_toInt (n := 57) (by omega)) (nI_toInt (n := sg) (by omega))).mpr z)
      refine lv_iconst (v := nI (1)) hx hb dX1_isDigit_12 (by decide) ?_
      refine lv_goto (tgt := 17) hx hb dX1_isDigit_13 (by decide) ?_
      exact xPi hx hb hr hlocks hS (by exact (by first | exact (bI_t (by omega)).symm | exact (bI_f (by omega)).symm)) (by exact rfl) dX1_isDigit_17

set_option maxHeartbeats 4000000 in
set_option maxRecDepth 100000 in
theorem c_X1_isShortCommand {l : Launch} {G : GT} {H0 : Heap} (sg : Nat) (hsg : sg < 128) : Met l yX1_isShortCommand wsX1_isShortCommand ({ frames := 0, cells := 0, slots := 0, locals := 0 } : Room) (pcG G [.int (nI (sg))] H0) (qPi (bI (isSh sg)) H0) 0 0 noF := by
  refine enter (cc := cX1_isShortCommand) (maxL := 1) (ret := some .boolean) (own := RX1) (lv := [(0, .int (nI (sg)))]) (by decide) rfl rfl rfl (Nat.le_of_ble_eq_true rfl) ?_
  intro pg ev s m below meth c hx hb hr hts hown hlocks hml hnm hH hC ls hl
  subst hH
  have hLo : ∀ q, noF q → lo G q := fun _ h => h.elim
  have hS : va_S noF s.heap s.heap [] := va_S.rf
  generalize ([] : List Loc) = locs at hS ⊢
  refine lv_iload_n hx hb dX1_isShortCommand_0 rfl (lv_at hl 0 rfl) ?_
  refine lv_bipush (v := nI (117)) hx hb dX1_isShortCommand_1 (by decide) ?_
  refine lv_icmp_eq (tgt := 36) hx hb dX1_isShortCommand_3 (by decide) (fun c_1 => ?_) (fun c_1 => ?_)
  · have f_2 : ((sg : Nat) : Int) = (117 : Int) := (c_eq (nI_toInt (n := sg) (by omega)) (nI_toInt (n := 117) (by omega))).mp c_1
    refine lv_iconst (v := nI (1)) hx hb dX1_isShortCommand_36 (by decide) ?_
    refine lv_goto (tgt := 41) hx hb dX1_isShortCommand_37 (by decide) ?_
    exact xPi hx hb hr hlocks hS (by exact (by first | exact (bI_t (by omega)).symm | exact (bI_f (by omega)).symm)) (by exact rfl) dX1_isShortCommand_41
  · have f_3 : ¬ ((sg : Nat) : Int) = (117 : Int) := fun z => c_1 ((c_eq (nI_toInt (n := sg) (by omega)) (nI_toInt (n := 117) (by omega))).mpr z)
    refine lv_iload_n hx hb dX1_isShortCommand_6 rfl (lv_at hl 0 rfl) ?_
    refine lv_bipush (v := nI (100)) hx hb dX1_isShortCommand_7 (by decide) ?_
    refine lv_icmp_eq (tgt := 36) hx hb dX1_isShortCommand_9 (by decide) (fun c_4 => ?_) (fun c_4 => ?_)
    · have f_5 : ((sg : Nat) : Int) = (100 : Int) := (c_eq (nI_toInt (n := sg) (by omega)) (nI_toInt (n := 100) (by omega))).mp c_4
      refine lv_iconst (v := nI (1)) hx hb dX1_isShortCommand_36 (by decide) ?_
      refine lv_goto (tgt := 41) hx hb dX1_isShortCommand_37 (by decide) ?_
      exact xPi hx hb hr hlocks hS (by exact (by first | exact (bI_t (by omega)).symm | exact (bI_f (by omega)).symm)) (by exact rfl) dX1_isShortCommand_41
    · have f_6 : ¬ ((sg : Nat) : Int) = (100 : Int) := fun z => c_4 ((c_eq (nI_toInt (n := sg) (by omega)) (nI_toInt (n := 100) (by omega))).mpr z)
      refine lv_iload_n hx hb dX1_isShortCommand_12 rfl (lv_at hl 0 rfl) ?_
      refine lv_bipush (v := nI (108)) hx hb dX1_isShortCommand_13 (by decide) ?_
      refine lv_icmp_eq (tgt := 36) hx hb dX1_isShortCommand_15 (by decide) (fun c_7 => ?_) (fun c_7 => ?_)
      · have f_8 : ((sg : Nat) : Int) = (108 : Int) := (c_eq (nI_toInt (n := sg) (by omega)) (nI_toInt (n := 108) (by omega))).mp c_7
        refine lv_iconst (v := nI (1)) hx hb dX1_isShortCommand_36 (by decide) ?_
        refine lv_goto (tgt := 41) hx hb dX1_isShortCommand_37 (by decide) ?_
        exact xPi hx hb hr hlocks hS (by exact (by first | exact (bI_t (by omega)).symm | exact (bI_f (by omega)).symm)) (by exact rfl) dX1_isShortCommand_41
      · have f_9 : ¬ ((sg : Nat) : Int) = (108 : Int) := fun z => c_7 ((c_eq (nI_toInt (n := sg) (by omega)) (nI_toInt (n := 108) (by omega))).mpr z)
        refine lv_iload_n hx hb dX1_isShortCommand_18 rfl (lv_at hl 0 rfl) ?_
        refine lv_bipush (v := nI (114)) hx hb dX1_isShortCommand_19 (by decide) ?_
        refine lv_icmp_eq (tgt := 36) hx hb dX1_isShortCommand_21 (by decide) (fun c_10 => ?_) (fun c_10 => ?_)
        · have f_11 : ((sg : Nat) : Int) = (114 : Int) := (c_eq (nI_toInt (n := sg) (by omega)) (nI_toInt (n := 114) (by omega))).mp c_10
          refine lv_iconst (v := nI (1)) hx hb dX1_isShortCommand_36 (by decide) ?_
          refine lv_goto (tgt := 41) hx hb dX1_isShortCommand_37 (by decide) ?_
          exact xPi hx hb hr hlocks hS (by exact (by first | exact (bI_t (by omega)).symm | exact (bI_f (by omega)).symm)) (by exact rfl) dX1_isShortCommand_41
        · have f_12 : ¬ ((sg : Nat) : Int) = (114 : Int) := fun z => c_10 ((c_eq (nI_toInt (n := sg) (by omega)) (nI_toInt (n := 114) (by omega))).mpr z)
          refine lv_iload_n hx hb dX1_isShortCommand_24 rfl (lv_at hl 0 rfl) ?_
          refine lv_bipush (v := nI (115)) hx hb dX1_isShortCommand_25 (by decide) ?_
          refine lv_icmp_eq (tgt := 36) hx hb dX1_isShortCommand_27 (by decide) (fun c_13 => ?_) (fun c_13 => ?_)
          · have f_14 : ((sg : Nat) : Int) = (115 : Int) := (c_eq (nI_toInt (n := sg) (by omega)) (nI_toInt (n := 115) (by omega))).mp c_13
            refine lv_iconst (v := nI (1)) hx hb dX1_isShortCommand_36 (by decide) ?_
            refine lv_goto (tgt := 41) hx hb dX1_isShortCommand_37 (by decide) ?_
            exact xPi hx hb hr hlocks hS (by exact (by first | exact (bI_t (by omega)).symm | exact (bI_f (by omega)).symm)) (by exact rfl) dX1_isShortCommand_41
          · have f_15 : ¬ ((sg : Nat) : Int) = (115 : Int) := fun z => c_13 ((c_eq (nI_toInt (n := sg) (by omega)) (nI_toInt (n := 115) (by omega))).mpr z)
            refine lv_iload_n hx hb dX1_isShortCommand_30 rfl (lv_at hl 0 rfl) ?_
            refine lv_bipush (v := nI (120)) hx hb dX1_isShortCommand_31 (by decide) ?_
            refine lv_icmp_ne (tgt := 40) hx hb dX1_isShortCommand_33 (by decide) (fun c_16 => ?_) (fun c_16 => ?_)
            · have f_17 : ¬ ((sg : Nat) : Int) = (120 : Int) := fun z => c_16 ((c_eq (nI_toInt (n := sg) (by omega)) (nI_toInt (n := 120) (by omega))).mpr z)
              refine lv_iconst (v := nI (0)) hx hb dX1_isShortCommand_40 (by decide) ?_
              exact xPi hx hb hr hlocks hS (by exact (by first | exact (bI_t (by omega)).symm | exact (bI_f (by omega)).symm)) (by exact rfl) dX1_isShortCommand_41
            · have f_18 : ((sg : Nat) : Int) = (120 : Int) := (c_eq (nI_toInt (n := sg) (by omega)) (nI_toInt (n := 120) (by omega))).mp c_16
              refine lv_iconst (v := nI (1)) hx hb dX1_isShortCommand_36 (by decide) ?_
              refine lv_goto (tgt := 41) hx hb dX1_isShortCommand_37 (by decide) ?_
              exact xPi hx hb hr hlocks hS (by exact (by first | exact (bI_t (by omega)).symm | exact (bI_f (by omega)).symm)) (by exact rfl) dX1_isShortCommand_41

set_option maxHeartbeats 4000000 in
set_option maxRecDepth 100000 in
theorem c_X1_dueAfter {l : Launch} {G : GT} {H0 : Heap} (du sg : Nat) (hdu : du ≤ 6) (hsg : sg < 128) : Met l yX1_dueAfter wsX1_dueAfter ({ frames := 1, cells := 0, slots := 0, locals := 20 } : Room) (pcG G [.int (nI (du)), .int (nI (sg))] H0) (qPi (iI (dI (dueA du sg))) H0) 0 0 noF := by
  refine enter (cc := cX1_dueAfter) (maxL := 2) (ret := some .int) (own := RX1) (lv := [(0, .int (nI (du))), (1, .int (nI (sg)))]) (by decide) rfl rfl rfl (Nat.le_of_ble_eq_true rfl) ?_
  intro pg ev s m below meth c hx hb hr hts hown hlocks hml hnm hH hC ls hl
  subst hH
  have hLo : ∀ q, noF q → lo G q := fun _ h => h.elim
  have hS : va_S noF s.heap s.heap [] := va_S.rf
  generalize ([] : List Loc) = locs at hS ⊢
  refine lv_iload_n hx hb dX1_dueAfter_0 rfl (lv_at hl 0 rfl) ?_
  rcases (show du = 0 ∨ du = 1 ∨ du = 2 ∨ du = 3 ∨ du = 4 ∨ du = 5 ∨ du = 6 by omega) with rfl | rfl | rfl | rfl | rfl | rfl | rfl
  · refine lv_tableIn (off := 39) (tgt := 40) hx hb dX1_dueAfter_1 (by decide) (by decide) (by decide) (by decide) ?_
    refine lv_iload_n hx hb dX1_dueAfter_40 rfl (lv_at hl 1 rfl) ?_
    refine lv_bipush (v := nI (112)) hx hb dX1_dueAfter_41 (by decide) ?_
    refine lv_icmp_ne (tgt := 50) hx hb dX1_dueAfter_43 (by decide) (fun c_1 => ?_) (fun c_1 => ?_)
    · have f_2 : ¬ ((sg : Nat) : Int) = (112 : Int) := fun z => c_1 ((c_eq (nI_toInt (n := sg) (by omega)) (nI_toInt (n := 112) (by omega))).mpr z)
      refine lv_iload_n hx hb dX1_dueAfter_50 rfl (lv_at hl 1 rfl) ?_
      refine kPi (va_runS (As := [.int (nI (sg))]) (rest := []) ⟨hx, hb, hml, hown, hts⟩ (c_X1_isShortCommand sg (by first | assumption | omega)) (va_cwS 1 hts gX1_dueAfter_X1_isShortCommand rfl rfl rfl (by decide +kernel) ⟨Nat.le_of_ble_eq_true rfl, Nat.le_of_ble_eq_true rfl⟩) (preS hC hS hLo) rfl rfl hl.1 rfl (lv_room (Nat.le_of_ble_eq_true rfl)) dX1_dueAfter_51 ⟨Nat.zero_le _, Nat.zero_le _⟩) hS (fun locs hS => ?_)
      refine lv_if_eq (tgt := 62) hx hb dX1_dueAfter_54 (by decide) (fun c_3 => ?_) (fun c_3 => ?_)
      · have f_4 : ¬ (isSh sg) := bI_0.mp c_3
        refine lv_iconst (v := iI (-1)) hx hb dX1_dueAfter_62 (by decide) ?_
        exact xPi hx hb hr hlocks hS (by exact (by have e : dueA 0 sg = 7 := (by unfold dueA isDg isSh; (repeat' split) <;> omega); rw [e]; rfl)) (by exact rfl) dX1_dueAfter_63
      · have f_5 : (isSh sg) := Classical.byContradiction (fun z => c_3 (bI_0.mpr z))
        refine lv_bipush (v := nI (6)) hx hb dX1_dueAfter_57 (by decide) ?_
        refine lv_goto (tgt := 63) hx hb dX1_dueAfter_59 (by decide) ?_
        exact xPi hx hb hr hlocks hS (by exact (by have e : dueA 0 sg = 6 := (by unfold dueA isDg isSh; (repeat' split) <;> omega); rw [e]; exact nI_i _)) (by exact rfl) dX1_dueAfter_63
    · have f_6 : ((sg : Nat) : Int) = (112 : Int) := (c_eq (nI_toInt (n := sg) (by omega)) (nI_toInt (n := 112) (by omega))).mp c_1
      refine lv_iconst (v := nI (1)) hx hb dX1_dueAfter_46 (by decide) ?_
      refine lv_goto (tgt := 63) hx hb dX1_dueAfter_47 (by decide) ?_
      exact xPi hx hb hr hlocks hS (by exact (by have e : dueA 0 sg = 1 := (by unfold dueA isDg isSh; (repeat' split) <;> omega); rw [e]; exact nI_i _)) (by exact rfl) dX1_dueAfter_63
  · refine lv_tableIn (off := 63) (tgt := 64) hx hb dX1_dueAfter_1 (by decide) (by decide) (by decide) (by decide) ?_
    refine lv_iload_n hx hb dX1_dueAfter_64 rfl (lv_at hl 1 rfl) ?_
    refine lv_bipush (v := nI (48)) hx hb dX1_dueAfter_65 (by decide) ?_
    refine lv_icmp_ne (tgt := 74) hx hb dX1_dueAfter_67 (by decide) (fun c_7 => ?_) (fun c_7 => ?_)
    · have f_8 : ¬ ((sg : Nat) : Int) = (48 : Int) := fun z => c_7 ((c_eq (nI_toInt (n := sg) (by omega)) (nI_toInt (n := 48) (by omega))).mpr z)
      refine lv_iload_n hx hb dX1_dueAfter_74 rfl (lv_at hl 1 rfl) ?_
      refine kPi (va_runS (As := [.int (nI (sg))]) (rest := []) ⟨hx, hb, hml, hown, hts⟩ (c_X1_isDigit sg (by first | assumption | omega)) (va_cwS 1 hts gX1_dueAfter_X1_isDigit rfl rfl rfl (by decide +kernel) ⟨Nat.le_of_ble_eq_true rfl, Nat.le_of_ble_eq_true rfl⟩) (preS hC hS hLo) rfl rfl hl.1 rfl (lv_room (Nat.le_of_ble_eq_true rfl)) dX1_dueAfter_75 ⟨Nat.zero_le _, Nat.zero_le _⟩) hS (fun locs hS => ?_)
      refine lv_if_eq (tgt := 85) hx hb dX1_dueAfter_78 (by decide) (fun c_9 => ?_) (fun c_9 => ?_)
      · have f_10 : ¬ (isDg sg) := bI_0.mp c_9
        refine lv_iconst (v := iI (-1)) hx hb dX1_dueAfter_85 (by decide) ?_
        exact xPi hx hb hr hlocks hS (by exact (by have e : dueA 1 sg = 7 := (by unfold dueA isDg isSh; (repeat' split) <;> omega); rw [e]; rfl)) (by exact rfl) dX1_dueAfter_86
      · have f_11 : (isDg sg) := Classical.byContradiction (fun z => c_9 (bI_0.mpr z))
        refine lv_iconst (v := nI (2)) hx hb dX1_dueAfter_81 (by decide) ?_
        refine lv_goto (tgt := 86) hx hb dX1_dueAfter_82 (by decide) ?_
        exact xPi hx hb hr hlocks hS (by exact (by have e : dueA 1 sg = 2 := (by unfold dueA isDg isSh; (repeat' split) <;> omega); rw [e]; exact nI_i _)) (by exact rfl) dX1_dueAfter_86
    · have f_12 : ((sg : Nat) : Int) = (48 : Int) := (c_eq (nI_toInt (n := sg) (by omega)) (nI_toInt (n := 48) (by omega))).mp c_7
      refine lv_iconst (v := nI (3)) hx hb dX1_dueAfter_70 (by decide) ?_
      refine lv_goto (tgt := 86) hx hb dX1_dueAfter_71 (by decide) ?_
      exact xPi hx hb hr hlocks hS (by exact (by have e : dueA 1 sg = 3 := (by unfold dueA isDg isSh; (repeat' split) <;> omega); rw [e]; exact nI_i _)) (by exact rfl) dX1_dueAfter_86
  · refine lv_tableIn (off := 86) (tgt := 87) hx hb dX1_dueAfter_1 (by decide) (by decide) (by decide) (by decide) ?_
    refine lv_iload_n hx hb dX1_dueAfter_87 rfl (lv_at hl 1 rfl) ?_
    refine kPi (va_runS (As := [.int (nI (sg))]) (rest := []) ⟨hx, hb, hml, hown, hts⟩ (c_X1_isDigit sg (by first | assumption | omega)) (va_cwS 1 hts gX1_dueAfter_X1_isDigit rfl rfl rfl (by decide +kernel) ⟨Nat.le_of_ble_eq_true rfl, Nat.le_of_ble_eq_true rfl⟩) (preS hC hS hLo) rfl rfl hl.1 rfl (lv_room (Nat.le_of_ble_eq_true rfl)) dX1_dueAfter_88 ⟨Nat.zero_le _, Nat.zero_le _⟩) hS (fun locs hS => ?_)
    refine lv_if_eq (tgt := 98) hx hb dX1_dueAfter_91 (by decide) (fun c_13 => ?_) (fun c_13 => ?_)
    · have f_14 : ¬ (isDg sg) := bI_0.mp c_13
      refine lv_iload_n hx hb dX1_dueAfter_98 rfl (lv_at hl 1 rfl) ?_
      refine lv_bipush (v := nI (61)) hx hb dX1_dueAfter_99 (by decide) ?_
      refine lv_icmp_ne (tgt := 108) hx hb dX1_dueAfter_101 (by decide) (fun c_15 => ?_) (fun c_15 => ?_)
      · have f_16 : ¬ ((sg : Nat) : Int) = (61 : Int) := fun z => c_15 ((c_eq (nI_toInt (n := sg) (by omega)) (nI_toInt (n := 61) (by omega))).mpr z)
        refine lv_iconst (v := iI (-1)) hx hb dX1_dueAfter_108 (by decide) ?_
        exact xPi hx hb hr hlocks hS (by exact (by have e : dueA 2 sg = 7 := (by unfold dueA isDg isSh; (repeat' split) <;> omega); rw [e]; rfl)) (by exact rfl) dX1_dueAfter_109
      · have f_17 : ((sg : Nat) : Int) = (61 : Int) := (c_eq (nI_toInt (n := sg) (by omega)) (nI_toInt (n := 61) (by omega))).mp c_15
        refine lv_iconst (v := nI (4)) hx hb dX1_dueAfter_104 (by decide) ?_
        refine lv_goto (tgt := 109) hx hb dX1_dueAfter_105 (by decide) ?_
        exact xPi hx hb hr hlocks hS (by exact (by have e : dueA 2 sg = 4 := (by unfold dueA isDg isSh; (repeat' split) <;> omega); rw [e]; exact nI_i _)) (by exact rfl) dX1_dueAfter_109
    · have f_18 : (isDg sg) := Classical.byContradiction (fun z => c_13 (bI_0.mpr z))
      refine lv_iconst (v := nI (3)) hx hb dX1_dueAfter_94 (by decide) ?_
      refine lv_goto (tgt := 109) hx hb dX1_dueAfter_95 (by decide) ?_
      exact xPi hx hb hr hlocks hS (by exact (by have e : dueA 2 sg = 3 := (by unfold dueA isDg isSh; (repeat' split) <;> omega); rw [e]; exact nI_i _)) (by exact rfl) dX1_dueAfter_109
  · refine lv_tableIn (off := 109) (tgt := 110) hx hb dX1_dueAfter_1 (by decide) (by decide) (by decide) (by decide) ?_
    refine lv_iload_n hx hb dX1_dueAfter_110 rfl (lv_at hl 1 rfl) ?_
    refine lv_bipush (v := nI (61)) hx hb dX1_dueAfter_111 (by decide) ?_
    refine lv_icmp_ne (tgt := 120) hx hb dX1_dueAfter_113 (by decide) (fun c_19 => ?_) (fun c_19 => ?_)
    · have f_20 : ¬ ((sg : Nat) : Int) = (61 : Int) := fun z => c_19 ((c_eq (nI_toInt (n := sg) (by omega)) (nI_toInt (n := 61) (by omega))).mpr z)
      refine lv_iconst (v := iI (-1)) hx hb dX1_dueAfter_120 (by decide) ?_
      exact xPi hx hb hr hlocks hS (by exact (by have e : dueA 3 sg = 7 := (by unfold dueA isDg isSh; (repeat' split) <;> omega); rw [e]; rfl)) (by exact rfl) dX1_dueAfter_121
    · have f_21 : ((sg : Nat) : Int) = (61 : Int) := (c_eq (nI_toInt (n := sg) (by omega)) (nI_toInt (n := 61) (by omega))).mp c_19
      refine lv_iconst (v := nI (4)) hx hb dX1_dueAfter_116 (by decide) ?_
      refine lv_goto (tgt := 121) hx hb dX1_dueAfter_117 (by decide) ?_
      exact xPi hx hb hr hlocks hS (by exact (by have e : dueA 3 sg = 4 := (by unfold dueA isDg isSh; (repeat' split) <;> omega); rw [e]; exact nI_i _)) (by exact rfl) dX1_dueAfter_121
  · refine lv_tableIn (off := 121) (tgt := 122) hx hb dX1_dueAfter_1 (by decide) (by decide) (by decide) (by decide) ?_
    refine lv_iload_n hx hb dX1_dueAfter_122 rfl (lv_at hl 1 rfl) ?_
    refine lv_bipush (v := nI (48)) hx hb dX1_dueAfter_123 (by decide) ?_
    refine lv_icmp_ne (tgt := 133) hx hb dX1_dueAfter_125 (by decide) (fun c_22 => ?_) (fun c_22 => ?_)
    · have f_23 : ¬ ((sg : Nat) : Int) = (48 : Int) := fun z => c_22 ((c_eq (nI_toInt (n := sg) (by omega)) (nI_toInt (n := 48) (by omega))).mpr z)
      refine lv_iload_n hx hb dX1_dueAfter_133 rfl (lv_at hl 1 rfl) ?_
      refine kPi (va_runS (As := [.int (nI (sg))]) (rest := []) ⟨hx, hb, hml, hown, hts⟩ (c_X1_isDigit sg (by first | assumption | omega)) (va_cwS 1 hts gX1_dueAfter_X1_isDigit rfl rfl rfl (by decide +kernel) ⟨Nat.le_of_ble_eq_true rfl, Nat.le_of_ble_eq_true rfl⟩) (preS hC hS hLo) rfl rfl hl.1 rfl (lv_room (Nat.le_of_ble_eq_true rfl)) dX1_dueAfter_134 ⟨Nat.zero_le _, Nat.zero_le _⟩) hS (fun locs hS => ?_)
      refine lv_if_eq (tgt := 144) hx hb dX1_dueAfter_137 (by decide) (fun c_24 => ?_) (fun c_24 => ?_)
      · have f_25 : ¬ (isDg sg) := bI_0.mp c_24
        refine lv_iconst (v := iI (-1)) hx hb dX1_dueAfter_144 (by decide) ?_
        exact xPi hx hb hr hlocks hS (by exact (by have e : dueA 4 sg = 7 := (by unfold dueA isDg isSh; (repeat' split) <;> omega); rw [e]; rfl)) (by exact rfl) dX1_dueAfter_145
      · have f_26 : (isDg sg) := Classical.byContradiction (fun z => c_24 (bI_0.mpr z))
        refine lv_iconst (v := nI (5)) hx hb dX1_dueAfter_140 (by decide) ?_
        refine lv_goto (tgt := 145) hx hb dX1_dueAfter_141 (by decide) ?_
        exact xPi hx hb hr hlocks hS (by exact (by have e : dueA 4 sg = 5 := (by unfold dueA isDg isSh; (repeat' split) <;> omega); rw [e]; exact nI_i _)) (by exact rfl) dX1_dueAfter_145
    · have f_27 : ((sg : Nat) : Int) = (48 : Int) := (c_eq (nI_toInt (n := sg) (by omega)) (nI_toInt (n := 48) (by omega))).mp c_22
      refine lv_bipush (v := nI (6)) hx hb dX1_dueAfter_128 (by decide) ?_
      refine lv_goto (tgt := 145) hx hb dX1_dueAfter_130 (by decide) ?_
      exact xPi hx hb hr hlocks hS (by exact (by have e : dueA 4 sg = 6 := (by unfold dueA isDg isSh; (repeat' split) <;> omega); rw [e]; exact nI_i _)) (by exact rfl) dX1_dueAfter_145
  · refine lv_tableIn (off := 145) (tgt := 146) hx hb dX1_dueAfter_1 (by decide) (by decide) (by decide) (by decide) ?_
    refine lv_iload_n hx hb dX1_dueAfter_146 rfl (lv_at hl 1 rfl) ?_
    refine kPi (va_runS (As := [.int (nI (sg))]) (rest := []) ⟨hx, hb, hml, hown, hts⟩ (c_X1_isDigit sg (by first | assumption | omega)) (va_cwS 1 hts gX1_dueAfter_X1_isDigit rfl rfl rfl (by decide +kernel) ⟨Nat.le_of_ble_eq_true rfl, Nat.le_of_ble_eq_true rfl⟩) (preS hC hS hLo) rfl rfl hl.1 rfl (lv_room (Nat.le_of_ble_eq_true rfl)) dX1_dueAfter_147 ⟨Nat.zero_le _, Nat.zero_le _⟩) hS (fun locs hS => ?_)
    refine lv_if_eq (tgt := 158) hx hb dX1_dueAfter_150 (by decide) (fun c_28 => ?_) (fun c_28 => ?_)
    · have f_29 : ¬ (isDg sg) := bI_0.mp c_28
      refine lv_iload_n hx hb dX1_dueAfter_158 rfl (lv_at hl 1 rfl) ?_
      refine lv_bipush (v := nI (59)) hx hb dX1_dueAfter_159 (by decide) ?_
      refine lv_icmp_ne (tgt := 168) hx hb dX1_dueAfter_161 (by decide) (fun c_30 => ?_) (fun c_30 => ?_)
      · have f_31 : ¬ ((sg : Nat) : Int) = (59 : Int) := fun z => c_30 ((c_eq (nI_toInt (n := sg) (by omega)) (nI_toInt (n := 59) (by omega))).mpr z)
        refine lv_iconst (v := iI (-1)) hx hb dX1_dueAfter_168 (by decide) ?_
        exact xPi hx hb hr hlocks hS (by exact (by have e : dueA 5 sg = 7 := (by unfold dueA isDg isSh; (repeat' split) <;> omega); rw [e]; rfl)) (by exact rfl) dX1_dueAfter_169
      · have f_32 : ((sg : Nat) : Int) = (59 : Int) := (c_eq (nI_toInt (n := sg) (by omega)) (nI_toInt (n := 59) (by omega))).mp c_30
        refine lv_iconst (v := nI (0)) hx hb dX1_dueAfter_164 (by decide) ?_
        refine lv_goto (tgt := 169) hx hb dX1_dueAfter_165 (by decide) ?_
        exact xPi hx hb hr hlocks hS (by exact (by have e : dueA 5 sg = 0 := (by unfold dueA isDg isSh; (repeat' split) <;> omega); rw [e]; exact nI_i _)) (by exact rfl) dX1_dueAfter_169
    · have f_33 : (isDg sg) := Classical.byContradiction (fun z => c_28 (bI_0.mpr z))
      refine lv_bipush (v := nI (6)) hx hb dX1_dueAfter_153 (by decide) ?_
      refine lv_goto (tgt := 169) hx hb dX1_dueAfter_155 (by decide) ?_
      exact xPi hx hb hr hlocks hS (by exact (by have e : dueA 5 sg = 6 := (by unfold dueA isDg isSh; (repeat' split) <;> omega); rw [e]; exact nI_i _)) (by exact rfl) dX1_dueAfter_169
  · refine lv_tableOut (tgt := 170) hx hb dX1_dueAfter_1 (by decide) (by decide) ?_
    refine lv_iload_n hx hb dX1_dueAfter_170 rfl (lv_at hl 1 rfl) ?_
    refine lv_bipush (v := nI (59)) hx hb dX1_dueAfter_171 (by decide) ?_
    refine lv_icmp_ne (tgt := 180) hx hb dX1_dueAfter_173 (by decide) (fun c_34 => ?_) (fun c_34 => ?_)
    · have f_35 : ¬ ((sg : Nat) : Int) = (59 : Int) := fun z => c_34 ((c_eq (nI_toInt (n := sg) (by omega)) (nI_toInt (n := 59) (by omega))).mpr z)
      refine lv_iconst (v := iI (-1)) hx hb dX1_dueAfter_180 (by decide) ?_
      exact xPi hx hb hr hlocks hS (by exact (by have e : dueA 6 sg = 7 := (by unfold dueA isDg isSh; (repeat' split) <;> omega); rw [e]; rfl)) (by exact rfl) dX1_dueAfter_181
    · have f_36 : ((sg : Nat) : Int) = (59 : Int) := (c_eq (nI_toInt (n := sg) (by omega)) (nI_toInt (n := 59) (by omega))).mp c_34
      refine lv_iconst (v := nI (0)) hx hb dX1_dueAfter_176 (by decide) ?_
      refine lv_goto (tgt := 181) hx hb dX1_dueAfter_177 (by decide) ?_
      exact xPi hx hb hr hlocks hS (by exact (by have e : dueA 6 sg = 0 := (by unfold dueA isDg isSh; (repeat' split) <;> omega); rw [e]; exact nI_i _)) (by exact rfl) dX1_dueAfter_181

set_option maxHeartbeats 4000000 in
set_option maxRecDepth 100000 in
theorem c_X1_firstError {l : Launch} {G : GT} {H0 : Heap} (th t1 : Nat) (tn : Nat → Nat) (ln : Nat) (htn : T128 tn) (hln : ln ≤ 80) (hP0 : PP G ([(th, .inr (1, [.ref t1, .int (nI (ln))])), (t1, .inl (cC G, 80, .inl (fun z9 => nI (tn z9))))]) H0) : Met l yX1_firstError wsX1_firstError ({ frames := 2, cells := 0, slots := 0, locals := 41 } : Room) (pcG G [.ref th] H0) (qPi (iI (FE tn ln)) H0) 0 0 noF := by
  refine enter (cc := cX1_firstError) (maxL := 3) (ret := some .int) (own := RX1) (lv := [(0, .ref th)]) (by decide) rfl rfl rfl (Nat.le_of_ble_eq_true rfl) ?_
  intro pg ev s m below meth c hx hb hr hts hown hlocks hml hnm hH hC ls hl
  subst hH
  have hLo : ∀ q, noF q → lo G q := fun _ h => h.elim
  have hS : va_S noF s.heap s.heap [] := va_S.rf
  generalize ([] : List Loc) = locs at hS ⊢
  have hP := hP0
  refine lv_iconst (v := nI (0)) hx hb dX1_firstError_0 (by decide) ?_
  refine lv_istore_n (lv' := [(1, .int (nI (0))), (0, .ref th)]) hx hb dX1_firstError_1 rfl hl (by decide) rfl (fun ls hl => ?_)
  refine lv_iconst (v := nI (0)) hx hb dX1_firstError_2 (by decide) ?_
  refine lv_istore_n (lv' := [(2, .int (nI (0))), (1, .int (nI (0))), (0, .ref th)]) hx hb dX1_firstError_3 rfl hl (by decide) rfl (fun ls hl => ?_)
  have L_4 : ∀ (n_4 : Nat) (i : Nat), ln - i < n_4 → (i ≤ ln) → (¬ dst tn i = 7) → (feF tn ln ln 0 = feF tn ln (ln - i) i) → ∀ (locs : List Loc) (ls : Array Slot), va_S noF s.heap s.heap locs → lv_has ls 3 [(0, .ref th), (1, .int (nI (dst tn i))), (2, .int (nI (i)))] → W pg l ev ({ frames := 2, cells := 0, slots := 0, locals := 41 } : Room) s m (([.ref th] : List Value).toArray) below meth c s.heap locs 0 0 (MQ below (qPi (iI (FE tn ln)) s.heap) (([.ref th] : List Value).toArray) s 0 0 noF) (F0 m 4 ls []) := by
    intro n_4
    induction n_4 with
    | zero => intro i hn; exact absurd hn (Nat.not_lt_zero _)
    | succ n_4 ih_4 =>
      intro i hn_4 hi hd7 hfe locs ls hS hl
      refine lv_iload_n hx hb dX1_firstError_4 rfl (lv_at hl 2 rfl) ?_
      refine lv_aload_n hx hb dX1_firstError_5 rfl (lv_at hl 0 rfl) ?_
      refine va_get (D := gD G) (cl := vwCl) (tys := tyl G) (ci := 1) (v := .int (nI (ln))) (C := RX1) (T := TX1) (N := 2) hx hb hts (by decide +kernel) hown hC.K hP 0 rfl rfl 1 (by decide) (hts (.fieldLink RX1 15 "MotionPost$CommandText" "length" "I") (by decide +kernel)) (fun _ h9 => h9) rfl dX1_firstError_6 ?_
      refine lv_icmp_ge (tgt := 35) hx hb dX1_firstError_9 (by decide) (fun c_1 => ?_) (fun c_1 => ?_)
      · have f_2 : ((ln : Nat) : Int) ≤ ((i : Nat) : Int) := (c_le (nI_toInt (n := ln) (by omega)) (nI_toInt (n := i) (by omega))).mp c_1
        have hdl := dst_le tn i
        refine lv_iload_n hx hb dX1_firstError_35 rfl (lv_at hl 1 rfl) ?_
        refine lv_iconst (v := nI (5)) hx hb dX1_firstError_36 (by decide) ?_
        refine lv_icmp_eq (tgt := 46) hx hb dX1_firstError_37 (by decide) (fun c_3 => ?_) (fun c_3 => ?_)
        · have f_4 : ((dst tn i : Nat) : Int) = (5 : Int) := (c_eq (nI_toInt (n := dst tn i) (by omega)) (nI_toInt (n := 5) (by omega))).mp c_3
          refine lv_iconst (v := iI (-1)) hx hb dX1_firstError_46 (by decide) ?_
          refine lv_goto (tgt := 54) hx hb dX1_firstError_47 (by decide) ?_
          exact xPi hx hb hr hlocks hS (by exact (by have e := hfe.trans (feF_e (tn := tn) (ln := ln) (by omega)); first | (rw [if_pos (by omega)] at e; exact congrArg iI e.symm) | (rw [if_neg (by omega)] at e; rw [nI_i]; exact congrArg iI e.symm))) (by exact rfl) dX1_firstError_54
        · have f_5 : ¬ ((dst tn i : Nat) : Int) = (5 : Int) := fun z => c_3 ((c_eq (nI_toInt (n := dst tn i) (by omega)) (nI_toInt (n := 5) (by omega))).mpr z)
          refine lv_iload_n hx hb dX1_firstError_40 rfl (lv_at hl 1 rfl) ?_
          refine lv_bipush (v := nI (6)) hx hb dX1_firstError_41 (by decide) ?_
          refine lv_icmp_ne (tgt := 50) hx hb dX1_firstError_43 (by decide) (fun c_6 => ?_) (fun c_6 => ?_)
          · have f_7 : ¬ ((dst tn i : Nat) : Int) = (6 : Int) := fun z => c_6 ((c_eq (nI_toInt (n := dst tn i) (by omega)) (nI_toInt (n := 6) (by omega))).mpr z)
            refine lv_aload_n hx hb dX1_firstError_50 rfl (lv_at hl 0 rfl) ?_
            refine va_get (D := gD G) (cl := vwCl) (tys := tyl G) (ci := 1) (v := .int (nI (ln))) (C := RX1) (T := TX1) (N := 2) hx hb hts (by decide +kernel) hown hC.K hP 0 rfl rfl 1 (by decide) (hts (.fieldLink RX1 15 "MotionPost$CommandText" "length" "I") (by decide +kernel)) (fun _ h9 => h9) rfl dX1_firstError_51 ?_
            exact xPi hx hb hr hlocks hS (by exact (by have e := hfe.trans (feF_e (tn := tn) (ln := ln) (by omega)); first | (rw [if_pos (by omega)] at e; exact congrArg iI e.symm) | (rw [if_neg (by omega)] at e; rw [nI_i]; exact congrArg iI e.symm))) (by exact rfl) dX1_firstError_54
          · have f_8 : ((dst tn i : Nat) : Int) = (6 : Int) := (c_eq (nI_toInt (n := dst tn i) (by omega)) (nI_toInt (n := 6) (by omega))).mp c_6
            refine lv_iconst (v := iI (-1)) hx hb dX1_firstError_46 (by decide) ?_
            refine lv_goto (tgt := 54) hx hb dX1_firstError_47 (by decide) ?_
            exact xPi hx hb hr hlocks hS (by exact (by have e := hfe.trans (feF_e (tn := tn) (ln := ln) (by omega)); first | (rw [if_pos (by omega)] at e; exact congrArg iI e.symm) | (rw [if_neg (by omega)] at e; rw [nI_i]; exact congrArg iI e.symm))) (by exact rfl) dX1_firstError_54
      · have f_9 : ¬ ((ln : Nat) : Int) ≤ ((i : Nat) : Int) := fun z => c_1 ((c_le (nI_toInt (n := ln) (by omega)) (nI_toInt (n := i) (by omega))).mpr z)
        have hdl := dst_le tn i
        have hsl := sgn_lt htn ln i
        have hdI := dI_in (dst_le tn (i + 1))
        refine lv_iload_n hx hb dX1_firstError_12 rfl (lv_at hl 1 rfl) ?_
        refine lv_aload_n hx hb dX1_firstError_13 rfl (lv_at hl 0 rfl) ?_
        refine lv_iload_n hx hb dX1_firstError_14 rfl (lv_at hl 2 rfl) ?_
        refine kPi (va_runV (As := [.int (nI (i))]) (rest := [.int (nI (dst tn i))]) ⟨hx, hb, hml, hown, hts⟩ (c_X1_signAt th t1 tn ln i (by first | assumption | omega) (by first | assumption | omega) (by first | assumption | omega) (hP.sub [0, 1] rfl)) (cwV 1 hts gX1_firstError_X1_signAt rfl rfl rfl (by decide +kernel) ⟨Nat.le_of_ble_eq_true rfl, Nat.le_of_ble_eq_true rfl⟩) (preV hC hS hLo hP (ci := 1) (q0 := 0) rfl rfl) rfl rfl hl.1 rfl (lv_room (Nat.le_of_ble_eq_true rfl)) dX1_firstError_15 ⟨Nat.zero_le _, Nat.zero_le _⟩) hS (fun locs hS => ?_)
        refine kPi (va_runS (As := [.int (nI (dst tn i)), .int (nI (sgn tn ln i))]) (rest := []) ⟨hx, hb, hml, hown, hts⟩ (c_X1_dueAfter (dst tn i) (sgn tn ln i) (by first | assumption | omega) (by first | assumption | omega)) (va_cwS 2 hts gX1_firstError_X1_dueAfter rfl rfl rfl (by decide +kernel) ⟨Nat.le_of_ble_eq_true rfl, Nat.le_of_ble_eq_true rfl⟩) (preS hC hS hLo) rfl rfl hl.1 rfl (lv_room (Nat.le_of_ble_eq_true rfl)) dX1_firstError_18 ⟨Nat.zero_le _, Nat.zero_le _⟩) hS (fun locs hS => ?_)
        refine topE (v' := iI (dI (dst tn (i + 1)))) (congrArg (fun z => iI (dI (dueA (dst tn i) z))) (sgn_in (by omega)).symm) ?_
        refine lv_istore_n (lv' := [(1, .int (iI (dI (dst tn (i + 1))))), (0, .ref th), (2, .int (nI (i)))]) hx hb dX1_firstError_21 rfl hl (by decide) rfl (fun ls hl => ?_)
        refine lv_iload_n hx hb dX1_firstError_22 rfl (lv_at hl 0 rfl) ?_
        refine lv_iconst (v := iI (-1)) hx hb dX1_firstError_23 (by decide) ?_
        refine lv_icmp_ne (tgt := 29) hx hb dX1_firstError_24 (by decide) (fun c_10 => ?_) (fun c_10 => ?_)
        · have f_11 : ¬ (dI (dst tn (i + 1))) = (-1) := fun z => c_10 ((c_eq (iI_toInt (by omega) (by omega)) (iI_toInt (by omega) (by omega))).mpr z)
          refine lv_iinc (v := nI (i + 1)) (lv' := [(2, .int (nI (i + 1))), (1, .int (iI (dI (dst tn (i + 1))))), (0, .ref th)]) hx hb dX1_firstError_29 hl (k := 2) rfl (inc_p i 1) (by decide) rfl (fun ls hl => ?_)
          refine lv_goto (tgt := 4) hx hb dX1_firstError_32 (by decide) ?_
          exact ih_4 (i + 1) (by omega) (by omega) (fun z => f_11 (by rw [z]; rfl)) (hfe.trans (feF_s (by omega) (fun z => f_11 (by rw [z]; rfl)))) locs ls hS (lv_sub hl [2, 1, 0] ((lvc rfl (lvc (congrArg Value.int (dI_nat (fun z => f_11 (by rw [z]; rfl)))) (lvc rfl rfl)))))
        · have f_12 : (dI (dst tn (i + 1))) = (-1) := (c_eq (iI_toInt (by omega) (by omega)) (iI_toInt (by omega) (by omega))).mp c_10
          refine lv_iload_n hx hb dX1_firstError_27 rfl (lv_at hl 2 rfl) ?_
          exact xPi hx hb hr hlocks hS (by exact (by rw [nI_i]; exact congrArg iI (hfe.trans (feF_x (by omega) (dI_m1 (dst_le _ _) f_12))).symm)) (by exact rfl) dX1_firstError_28
  exact L_4 (_ + 1) 0 (Nat.lt_succ_self _) (by omega) (by show ¬ 0 = 7; omega) rfl locs ls hS (lv_sub hl [2, 1, 0] (lvc rfl (lvc (congrArg Value.int (rfl)) (lvc rfl rfl))))

set_option maxHeartbeats 4000000 in
set_option maxRecDepth 100000 in
theorem c_X1_afterNumber {l : Launch} {G : GT} {H0 : Heap} (th t1 : Nat) (tn : Nat → Nat) (ln : Nat) (i0 : Nat) (htn : T128 tn) (hln : ln ≤ 80) (hi0 : i0 ≤ ln) (hP0 : PP G ([(th, .inr (1, [.ref t1, .int (nI (ln))])), (t1, .inl (cC G, 80, .inl (fun z9 => nI (tn z9))))]) H0) : Met l yX1_afterNumber wsX1_afterNumber ({ frames := 1, cells := 0, slots := 0, locals := 21 } : Room) (pcG G [.ref th, .int (nI (i0))] H0) (qPi (nI (AN tn ln i0)) H0) 0 0 noF := by
  refine enter (cc := cX1_afterNumber) (maxL := 3) (ret := some .int) (own := RX1) (lv := [(0, .ref th), (1, .int (nI (i0)))]) (by decide) rfl rfl rfl (Nat.le_of_ble_eq_true rfl) ?_
  intro pg ev s m below meth c hx hb hr hts hown hlocks hml hnm hH hC ls hl
  subst hH
  have hLo : ∀ q, noF q → lo G q := fun _ h => h.elim
  have hS : va_S noF s.heap s.heap [] := va_S.rf
  generalize ([] : List Loc) = locs at hS ⊢
  have hP := hP0
  refine lv_iload_n hx hb dX1_afterNumber_0 rfl (lv_at hl 1 rfl) ?_
  refine lv_istore_n (lv' := [(2, .int (nI (i0))), (0, .ref th), (1, .int (nI (i0)))]) hx hb dX1_afterNumber_1 rfl hl (by decide) rfl (fun ls hl => ?_)
  have L_2 : ∀ (n_2 : Nat) (i : Nat), ln - i < n_2 → (i ≤ ln) → (AN tn ln i0 = AN tn ln i) → ∀ (locs : List Loc) (ls : Array Slot), va_S noF s.heap s.heap locs → lv_has ls 3 [(0, .ref th), (1, .int (nI (i0))), (2, .int (nI (i)))] → W pg l ev ({ frames := 1, cells := 0, slots := 0, locals := 21 } : Room) s m (([.ref th, .int (nI (i0))] : List Value).toArray) below meth c s.heap locs 0 0 (MQ below (qPi (nI (AN tn ln i0)) s.heap) (([.ref th, .int (nI (i0))] : List Value).toArray) s 0 0 noF) (F0 m 2 ls []) := by
    intro n_2
    induction n_2 with
    | zero => intro i hn; exact absurd hn (Nat.not_lt_zero _)
    | succ n_2 ih_2 =>
      intro i hn_2 hi han locs ls hS hl
      refine lv_iload_n hx hb dX1_afterNumber_2 rfl (lv_at hl 2 rfl) ?_
      refine lv_aload_n hx hb dX1_afterNumber_3 rfl (lv_at hl 0 rfl) ?_
      refine va_get (D := gD G) (cl := vwCl) (tys := tyl G) (ci := 1) (v := .int (nI (ln))) (C := RX1) (T := TX1) (N := 2) hx hb hts (by decide +kernel) hown hC.K hP 0 rfl rfl 1 (by decide) (hts (.fieldLink RX1 15 "MotionPost$CommandText" "length" "I") (by decide +kernel)) (fun _ h9 => h9) rfl dX1_afterNumber_4 ?_
      refine lv_icmp_ge (tgt := 27) hx hb dX1_afterNumber_7 (by decide) (fun c_1 => ?_) (fun c_1 => ?_)
      · have f_2 : ((ln : Nat) : Int) ≤ ((i : Nat) : Int) := (c_le (nI_toInt (n := ln) (by omega)) (nI_toInt (n := i) (by omega))).mp c_1
        refine lv_iload_n hx hb dX1_afterNumber_27 rfl (lv_at hl 2 rfl) ?_
        exact xPi hx hb hr hlocks hS (by exact congrArg nI (han.trans (AN_x2 (by first | exact Or.inl (by omega) | exact Or.inr (by assumption)))).symm) (by exact rfl) dX1_afterNumber_28
      · have f_3 : ¬ ((ln : Nat) : Int) ≤ ((i : Nat) : Int) := fun z => c_1 ((c_le (nI_toInt (n := ln) (by omega)) (nI_toInt (n := i) (by omega))).mpr z)
        refine lv_aload_n hx hb dX1_afterNumber_10 rfl (lv_at hl 0 rfl) ?_
        refine lv_iload_n hx hb dX1_afterNumber_11 rfl (lv_at hl 2 rfl) ?_
        have hsl := sgn_lt htn ln i
        refine kPi (va_runV (As := [.int (nI (i))]) (rest := []) ⟨hx, hb, hml, hown, hts⟩ (c_X1_signAt th t1 tn ln i (by first | assumption | omega) (by first | assumption | omega) (by first | assumption | omega) (hP.sub [0, 1] rfl)) (cwV 1 hts gX1_afterNumber_X1_signAt rfl rfl rfl (by decide +kernel) ⟨Nat.le_of_ble_eq_true rfl, Nat.le_of_ble_eq_true rfl⟩) (preV hC hS hLo hP (ci := 1) (q0 := 0) rfl rfl) rfl rfl hl.1 rfl (lv_room (Nat.le_of_ble_eq_true rfl)) dX1_afterNumber_12 ⟨Nat.zero_le _, Nat.zero_le _⟩) hS (fun locs hS => ?_)
        refine kPi (va_runS (As := [.int (nI (sgn tn ln i))]) (rest := []) ⟨hx, hb, hml, hown, hts⟩ (c_X1_isDigit (sgn tn ln i) (by first | assumption | omega)) (va_cwS 1 hts gX1_afterNumber_X1_isDigit rfl rfl rfl (by decide +kernel) ⟨Nat.le_of_ble_eq_true rfl, Nat.le_of_ble_eq_true rfl⟩) (preS hC hS hLo) rfl rfl hl.1 rfl (lv_room (Nat.le_of_ble_eq_true rfl)) dX1_afterNumber_15 ⟨Nat.zero_le _, Nat.zero_le _⟩) hS (fun locs hS => ?_)
        refine lv_if_eq (tgt := 27) hx hb dX1_afterNumber_18 (by decide) (fun c_4 => ?_) (fun c_4 => ?_)
        · have f_5 : ¬ (isDg (sgn tn ln i)) := bI_0.mp c_4
          refine lv_iload_n hx hb dX1_afterNumber_27 rfl (lv_at hl 2 rfl) ?_
          exact xPi hx hb hr hlocks hS (by exact congrArg nI (han.trans (AN_x2 (by first | exact Or.inl (by omega) | exact Or.inr (by assumption)))).symm) (by exact rfl) dX1_afterNumber_28
        · have f_6 : (isDg (sgn tn ln i)) := Classical.byContradiction (fun z => c_4 (bI_0.mpr z))
          refine lv_iinc (v := nI (i + 1)) (lv' := [(2, .int (nI (i + 1))), (0, .ref th), (1, .int (nI (i0)))]) hx hb dX1_afterNumber_21 hl (k := 2) rfl (inc_p i 1) (by decide) rfl (fun ls hl => ?_)
          refine lv_goto (tgt := 2) hx hb dX1_afterNumber_24 (by decide) ?_
          exact ih_2 (i + 1) (by omega) (by omega) (han.trans (AN_s2 (by omega) (by assumption))) locs ls hS (lv_sub hl [1, 2, 0] ((lvc rfl (lvc rfl (lvc rfl rfl)))))
  exact L_2 (_ + 1) i0 (Nat.lt_succ_self _) (by omega) rfl locs ls hS (lv_sub hl [1, 2, 0] (lvc rfl (lvc rfl (lvc rfl rfl))))

set_option maxHeartbeats 4000000 in
set_option maxRecDepth 100000 in
theorem c_X1_numberFrom {l : Launch} {G : GT} {H0 : Heap} (th t1 : Nat) (tn : Nat → Nat) (ln : Nat) (i0 : Nat) (htn : T128 tn) (hln : ln ≤ 80) (hi0 : i0 ≤ ln) (hP0 : PP G ([(th, .inr (1, [.ref t1, .int (nI (ln))])), (t1, .inl (cC G, 80, .inl (fun z9 => nI (tn z9))))]) H0) : Met l yX1_numberFrom wsX1_numberFrom ({ frames := 2, cells := 0, slots := 0, locals := 43 } : Room) (pcG G [.ref th, .int (nI (i0))] H0) (qPi (iI (nbZ tn ln i0 (AN tn ln i0 - i0))) H0) 0 0 noF := by
  refine enter (cc := cX1_numberFrom) (maxL := 5) (ret := some .int) (own := RX1) (lv := [(0, .ref th), (1, .int (nI (i0)))]) (by decide) rfl rfl rfl (Nat.le_of_ble_eq_true rfl) ?_
  intro pg ev s m below meth c hx hb hr hts hown hlocks hml hnm hH hC ls hl
  subst hH
  have hLo : ∀ q, noF q → lo G q := fun _ h => h.elim
  have hS : va_S noF s.heap s.heap [] := va_S.rf
  generalize ([] : List Loc) = locs at hS ⊢
  have hP := hP0
  refine lv_aload_n hx hb dX1_numberFrom_0 rfl (lv_at hl 0 rfl) ?_
  refine lv_iload_n hx hb dX1_numberFrom_1 rfl (lv_at hl 1 rfl) ?_
  refine kPi (va_runV (As := [.int (nI (i0))]) (rest := []) ⟨hx, hb, hml, hown, hts⟩ (c_X1_afterNumber th t1 tn ln i0 (by first | assumption | omega) (by first | assumption | omega) (by first | assumption | omega) (hP.sub [0, 1] rfl)) (cwV 1 hts gX1_numberFrom_X1_afterNumber rfl rfl rfl (by decide +kernel) ⟨Nat.le_of_ble_eq_true rfl, Nat.le_of_ble_eq_true rfl⟩) (preV hC hS hLo hP (ci := 1) (q0 := 0) rfl rfl) rfl rfl hl.1 rfl (lv_room (Nat.le_of_ble_eq_true rfl)) dX1_numberFrom_2 ⟨Nat.zero_le _, Nat.zero_le _⟩) hS (fun locs hS => ?_)
  refine lv_istore_n (lv' := [(2, .int (nI (AN tn ln i0))), (0, .ref th), (1, .int (nI (i0)))]) hx hb dX1_numberFrom_5 rfl hl (by decide) rfl (fun ls hl => ?_)
  have han := AN_in tn hi0
  refine lv_iconst (v := nI (0)) hx hb dX1_numberFrom_6 (by decide) ?_
  refine lv_istore_n (lv' := [(3, .int (nI (0))), (2, .int (nI (AN tn ln i0))), (0, .ref th), (1, .int (nI (i0)))]) hx hb dX1_numberFrom_7 rfl hl (by decide) rfl (fun ls hl => ?_)
  refine lv_iload_n hx hb dX1_numberFrom_8 rfl (lv_at hl 3 rfl) ?_
  refine lv_istore (lv' := [(4, .int (nI (i0))), (3, .int (nI (0))), (2, .int (nI (AN tn ln i0))), (0, .ref th), (1, .int (nI (i0)))]) hx hb dX1_numberFrom_9 hl (by decide) rfl (fun ls hl => ?_)
  have L_11 : ∀ (n_11 : Nat) (j : Nat), AN tn ln i0 - (i0 + j) < n_11 → (i0 + j ≤ AN tn ln i0) → ∀ (locs : List Loc) (ls : Array Slot), va_S noF s.heap s.heap locs → lv_has ls 5 [(0, .ref th), (1, .int (nI (i0))), (2, .int (nI (AN tn ln i0))), (3, .int (iI (nbZ tn ln i0 j))), (4, .int (nI (i0 + j)))] → W pg l ev ({ frames := 2, cells := 0, slots := 0, locals := 43 } : Room) s m (([.ref th, .int (nI (i0))] : List Value).toArray) below meth c s.heap locs 0 0 (MQ below (qPi (iI (nbZ tn ln i0 (AN tn ln i0 - i0))) s.heap) (([.ref th, .int (nI (i0))] : List Value).toArray) s 0 0 noF) (F0 m 11 ls []) := by
    intro n_11
    induction n_11 with
    | zero => intro j hn; exact absurd hn (Nat.not_lt_zero _)
    | succ n_11 ih_11 =>
      intro j hn_11 hj locs ls hS hl
      refine lv_iload hx hb dX1_numberFrom_11 (lv_at hl 4 rfl) ?_
      refine lv_iload_n hx hb dX1_numberFrom_13 rfl (lv_at hl 2 rfl) ?_
      refine lv_icmp_ge (tgt := 38) hx hb dX1_numberFrom_14 (by decide) (fun c_1 => ?_) (fun c_1 => ?_)
      · have f_2 : ((AN tn ln i0 : Nat) : Int) ≤ ((i0 + j : Nat) : Int) := (c_le (nI_toInt (n := AN tn ln i0) (by omega)) (nI_toInt (n := i0 + j) (by omega))).mp c_1
        have e_j : j = AN tn ln i0 - i0 := by omega
        replace e_j := e_j.symm
        subst e_j
        refine lv_iload_n hx hb dX1_numberFrom_38 rfl (lv_at hl 3 rfl) ?_
        exact xPi hx hb hr hlocks hS (by exact rfl) (by exact rfl) dX1_numberFrom_39
      · have f_3 : ¬ ((AN tn ln i0 : Nat) : Int) ≤ ((i0 + j : Nat) : Int) := fun z => c_1 ((c_le (nI_toInt (n := AN tn ln i0) (by omega)) (nI_toInt (n := i0 + j) (by omega))).mpr z)
        refine lv_bipush (v := nI (10)) hx hb dX1_numberFrom_17 (by decide) ?_
        refine lv_iload_n hx hb dX1_numberFrom_19 rfl (lv_at hl 3 rfl) ?_
        refine gMul (z := iI ((10 : Int) * (nbZ tn ln i0 j))) hx hb dX1_numberFrom_20 (z_mul (nI_i (10)) rfl) ?_
        refine lv_aload_n hx hb dX1_numberFrom_21 rfl (lv_at hl 0 rfl) ?_
        refine lv_iload hx hb dX1_numberFrom_22 (lv_at hl 4 rfl) ?_
        have hsl := sgn_lt htn ln (i0 + j)
        refine kPi (va_runV (As := [.int (nI (i0 + j))]) (rest := [.int (iI ((10 : Int) * (nbZ tn ln i0 j)))]) ⟨hx, hb, hml, hown, hts⟩ (c_X1_signAt th t1 tn ln (i0 + j) (by first | assumption | omega) (by first | assumption | omega) (by first | assumption | omega) (hP.sub [0, 1] rfl)) (cwV 1 hts gX1_numberFrom_X1_signAt rfl rfl rfl (by decide +kernel) ⟨Nat.le_of_ble_eq_true rfl, Nat.le_of_ble_eq_true rfl⟩) (preV hC hS hLo hP (ci := 1) (q0 := 0) rfl rfl) rfl rfl hl.1 rfl (lv_room (Nat.le_of_ble_eq_true rfl)) dX1_numberFrom_24 ⟨Nat.zero_le _, Nat.zero_le _⟩) hS (fun locs hS => ?_)
        refine lv_bipush (v := nI (48)) hx hb dX1_numberFrom_27 (by decide) ?_
        refine gSub (z := iI (((sgn tn ln (i0 + j) : Nat) : Int) - (48 : Int))) hx hb dX1_numberFrom_29 (z_sub (nI_i (sgn tn ln (i0 + j))) (nI_i (48))) ?_
        refine gAdd (z := iI (((10 : Int) * (nbZ tn ln i0 j)) + (((sgn tn ln (i0 + j) : Nat) : Int) - (48 : Int)))) hx hb dX1_numberFrom_30 (z_add rfl rfl) ?_
        refine lv_istore_n (lv' := [(3, .int (iI (((10 : Int) * (nbZ tn ln i0 j)) + (((sgn tn ln (i0 + j) : Nat) : Int) - (48 : Int))))), (0, .ref th), (1, .int (nI (i0))), (2, .int (nI (AN tn ln i0))), (4, .int (nI (i0 + j)))]) hx hb dX1_numberFrom_31 rfl hl (by decide) rfl (fun ls hl => ?_)
        refine lv_iinc (v := nI ((i0 + j) + 1)) (lv' := [(4, .int (nI ((i0 + j) + 1))), (3, .int (iI (((10 : Int) * (nbZ tn ln i0 j)) + (((sgn tn ln (i0 + j) : Nat) : Int) - (48 : Int))))), (0, .ref th), (1, .int (nI (i0))), (2, .int (nI (AN tn ln i0)))]) hx hb dX1_numberFrom_32 hl (k := 4) rfl (inc_p (i0 + j) 1) (by decide) rfl (fun ls hl => ?_)
        refine lv_goto (tgt := 11) hx hb dX1_numberFrom_35 (by decide) ?_
        exact ih_11 (j + 1) (by omega) (by omega) locs ls hS (lv_sub hl [2, 3, 4, 1, 0] ((lvc rfl (lvc rfl (lvc rfl (lvc (congrArg Value.int (rfl)) (lvc rfl rfl)))))))
  exact L_11 (_ + 1) 0 (Nat.lt_succ_self _) (by omega) locs ls hS (lv_sub hl [3, 4, 2, 1, 0] (lvc rfl (lvc rfl (lvc rfl (lvc (congrArg Value.int (rfl)) (lvc (congrArg Value.int (rfl)) rfl))))))

set_option maxHeartbeats 4000000 in
set_option maxRecDepth 100000 in
theorem c_X1_startsCommand {l : Launch} {G : GT} {H0 : Heap} (th t1 : Nat) (tn : Nat → Nat) (ln : Nat) (i : Nat) (htn : T128 tn) (hln : ln ≤ 80) (hi9 : i ≤ 80) (hP0 : PP G ([(th, .inr (1, [.ref t1, .int (nI (ln))])), (t1, .inl (cC G, 80, .inl (fun z9 => nI (tn z9))))]) H0) : Met l yX1_startsCommand wsX1_startsCommand ({ frames := 1, cells := 0, slots := 0, locals := 21 } : Room) (pcG G [.ref th, .int (nI (i))] H0) (qPi (bI (i = 0 ∨ sgn tn ln (i - 1) = 59)) H0) 0 0 noF := by
  refine enter (cc := cX1_startsCommand) (maxL := 2) (ret := some .boolean) (own := RX1) (lv := [(0, .ref th), (1, .int (nI (i)))]) (by decide) rfl rfl rfl (Nat.le_of_ble_eq_true rfl) ?_
  intro pg ev s m below meth c hx hb hr hts hown hlocks hml hnm hH hC ls hl
  subst hH
  have hLo : ∀ q, noF q → lo G q := fun _ h => h.elim
  have hS : va_S noF s.heap s.heap [] := va_S.rf
  generalize ([] : List Loc) = locs at hS ⊢
  have hP := hP0
  refine lv_iload_n hx hb dX1_startsCommand_0 rfl (lv_at hl 1 rfl) ?_
  refine lv_if_eq (tgt := 16) hx hb dX1_startsCommand_1 (by decide) (fun c_1 => ?_) (fun c_1 => ?_)
  · have f_2 : ((i : Nat) : Int) = (0 : Int) := (c_eq (nI_toInt (n := i) (by omega)) rfl).mp c_1
    refine lv_iconst (v := nI (1)) hx hb dX1_startsCommand_16 (by decide) ?_
    refine lv_goto (tgt := 21) hx hb dX1_startsCommand_17 (by decide) ?_
    exact xPi hx hb hr hlocks hS (by exact (by first | exact (bI_t (by omega)).symm | exact (bI_f (by omega)).symm)) (by exact rfl) dX1_startsCommand_21
  · have f_3 : ¬ ((i : Nat) : Int) = (0 : Int) := fun z => c_1 ((c_eq (nI_toInt (n := i) (by omega)) rfl).mpr z)
    refine lv_aload_n hx hb dX1_startsCommand_4 rfl (lv_at hl 0 rfl) ?_
    refine lv_iload_n hx hb dX1_startsCommand_5 rfl (lv_at hl 1 rfl) ?_
    refine lv_iconst (v := nI (1)) hx hb dX1_startsCommand_6 (by decide) ?_
    refine gSub (z := nI (i - 1)) hx hb dX1_startsCommand_7 (pk_sub (by omega)) ?_
    refine kPi (va_runV (As := [.int (nI (i - 1))]) (rest := []) ⟨hx, hb, hml, hown, hts⟩ (c_X1_signAt th t1 tn ln (i - 1) (by first | assumption | omega) (by first | assumption | omega) (by first | assumption | omega) (hP.sub [0, 1] rfl)) (cwV 1 hts gX1_startsCommand_X1_signAt rfl rfl rfl (by decide +kernel) ⟨Nat.le_of_ble_eq_true rfl, Nat.le_of_ble_eq_true rfl⟩) (preV hC hS hLo hP (ci := 1) (q0 := 0) rfl rfl) rfl rfl hl.1 rfl (lv_room (Nat.le_of_ble_eq_true rfl)) dX1_startsCommand_8 ⟨Nat.zero_le _, Nat.zero_le _⟩) hS (fun locs hS => ?_)
    have hsl := sgn_lt htn ln (i - 1)
    refine lv_bipush (v := nI (59)) hx hb dX1_startsCommand_11 (by decide) ?_
    refine lv_icmp_ne (tgt := 20) hx hb dX1_startsCommand_13 (by decide) (fun c_4 => ?_) (fun c_4 => ?_)
    · have f_5 : ¬ ((sgn tn ln (i - 1) : Nat) : Int) = (59 : Int) := fun z => c_4 ((c_eq (nI_toInt (n := sgn tn ln (i - 1)) (by omega)) (nI_toInt (n := 59) (by omega))).mpr z)
      refine lv_iconst (v := nI (0)) hx hb dX1_startsCommand_20 (by decide) ?_
      exact xPi hx hb hr hlocks hS (by exact (by first | exact (bI_t (by omega)).symm | exact (bI_f (by omega)).symm)) (by exact rfl) dX1_startsCommand_21
    · have f_6 : ((sgn tn ln (i - 1) : Nat) : Int) = (59 : Int) := (c_eq (nI_toInt (n := sgn tn ln (i - 1)) (by omega)) (nI_toInt (n := 59) (by omega))).mp c_4
      refine lv_iconst (v := nI (1)) hx hb dX1_startsCommand_16 (by decide) ?_
      refine lv_goto (tgt := 21) hx hb dX1_startsCommand_17 (by decide) ?_
      exact xPi hx hb hr hlocks hS (by exact (by first | exact (bI_t (by omega)).symm | exact (bI_f (by omega)).symm)) (by exact rfl) dX1_startsCommand_21
