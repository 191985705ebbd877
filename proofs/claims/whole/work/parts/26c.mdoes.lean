set_option maxHeartbeats 4000000 in
set_option maxRecDepth 100000 in
theorem c_X9_does_p1 {l : Launch} {G : GT} {H0 : Heap} (mh m1 m2 m3 m4 m5 : Nat) (ss hi sl : Nat → Int) (tx : Nat → Nat) (ne : Nat → Int) (th : Int32) (kn ke le : Nat) (sp wr dn : Int32) (p w : Nat) (hpw : p ≤ 99 ∧ w ≤ 99) (hok : p < 64 ∧ w ≤ 15) (hP0 : PP G ([(mh, .inr (8, [.int (th), .ref m1, .ref m2, .int (nI (kn)), .ref m3, .int (nI (ke)), .ref m4, .int (nI (le)), .ref m5, .int (sp), .int (wr), .int (nI (112)), .int (nI (p)), .int (nI (w)), .int (dn)])), (m1, .inl (cI G, 205, .inl (fun z9 => iI (ss z9)))), (m2, .inl (cI G, 1230, .inl (fun z9 => iI (hi z9)))), (m3, .inl (cI G, 410, .inl (fun z9 => iI (sl z9)))), (m4, .inl (cI G, 80, .inl (fun z9 => nI (tx z9)))), (m5, .inl (cI G, 128, .inl (fun z9 => iI (ne z9))))]) H0) (hB0 : va_D (lo G) ([(mh, .inr (8, [.int (th), .ref m1, .ref m2, .int (nI (kn)), .ref m3, .int (nI (ke)), .ref m4, .int (nI (le)), .ref m5, .int (sp), .int (wr), .int (nI (112)), .int (nI (p)), .int (nI (w)), .int (dn)])), (m1, .inl (cI G, 205, .inl (fun z9 => iI (ss z9)))), (m2, .inl (cI G, 1230, .inl (fun z9 => iI (hi z9)))), (m3, .inl (cI G, 410, .inl (fun z9 => iI (sl z9)))), (m4, .inl (cI G, 80, .inl (fun z9 => nI (tx z9)))), (m5, .inl (cI G, 128, .inl (fun z9 => iI (ne z9))))])) : Met l yX9_does wsX9_does ({ frames := 10, cells := 0, slots := 0, locals := 237 } : Room) (pcG G [.ref mh] H0) (qMi G (fun (r : Int32) (u : Unit) => r = nI (1)) (fun (u : Unit) => [(mh, .inr (8, [.int (th), .ref m1, .ref m2, .int (nI (kn)), .ref m3, .int (nI (ke)), .ref m4, .int (nI (le)), .ref m5, .int (sp), .int (wr), .int (nI (112)), .int (nI (p)), .int (nI (w)), .int (dn)])), (m1, .inl (cI G, 205, .inl (fun z9 => iI ((va_up ss p (w : Int)) z9)))), (m2, .inl (cI G, 1230, .inl (fun z9 => iI (hi z9)))), (m3, .inl (cI G, 410, .inl (fun z9 => iI (sl z9)))), (m4, .inl (cI G, 80, .inl (fun z9 => nI (tx z9)))), (m5, .inl (cI G, 128, .inl (fun z9 => iI (ne z9))))]) ([(mh, .inr (8, [.int (th), .ref m1, .ref m2, .int (nI (kn)), .ref m3, .int (nI (ke)), .ref m4, .int (nI (le)), .ref m5, .int (sp), .int (wr), .int (nI (112)), .int (nI (p)), .int (nI (w)), .int (dn)])), (m1, .inl (cI G, 205, .inl (fun z9 => iI (ss z9)))), (m2, .inl (cI G, 1230, .inl (fun z9 => iI (hi z9)))), (m3, .inl (cI G, 410, .inl (fun z9 => iI (sl z9)))), (m4, .inl (cI G, 80, .inl (fun z9 => nI (tx z9)))), (m5, .inl (cI G, 128, .inl (fun z9 => iI (ne z9))))]) H0) 0 0 (va_A ([(mh, .inr (8, [.int (th), .ref m1, .ref m2, .int (nI (kn)), .ref m3, .int (nI (ke)), .ref m4, .int (nI (le)), .ref m5, .int (sp), .int (wr), .int (nI (112)), .int (nI (p)), .int (nI (w)), .int (dn)])), (m1, .inl (cI G, 205, .inl (fun z9 => iI (ss z9)))), (m2, .inl (cI G, 1230, .inl (fun z9 => iI (hi z9)))), (m3, .inl (cI G, 410, .inl (fun z9 => iI (sl z9)))), (m4, .inl (cI G, 80, .inl (fun z9 => nI (tx z9)))), (m5, .inl (cI G, 128, .inl (fun z9 => iI (ne z9))))]) H0.size) := by
  refine enter (cc := cX9_does) (maxL := 3) (ret := some .boolean) (own := RX9) (lv := [(0, .ref mh)]) (by decide) rfl rfl rfl (Nat.le_of_ble_eq_true rfl) ?_
  intro pg ev s m below meth c hx hb hr hts hown hlocks hml hnm hH hC ls hl
  subst hH
  have hLo := va_freeB hB0 hC.2.2.2.1
  have hD := hB0.self (sz := s.heap.size)
  have hS : va_S (va_A ([(mh, .inr (8, [.int (th), .ref m1, .ref m2, .int (nI (kn)), .ref m3, .int (nI (ke)), .ref m4, .int (nI (le)), .ref m5, .int (sp), .int (wr), .int (nI (112)), .int (nI (p)), .int (nI (w)), .int (dn)])), (m1, .inl (cI G, 205, .inl (fun z9 => iI (ss z9)))), (m2, .inl (cI G, 1230, .inl (fun z9 => iI (hi z9)))), (m3, .inl (cI G, 410, .inl (fun z9 => iI (sl z9)))), (m4, .inl (cI G, 80, .inl (fun z9 => nI (tx z9)))), (m5, .inl (cI G, 128, .inl (fun z9 => iI (ne z9))))]) s.heap.size) s.heap s.heap [] := va_S.rf
  unfold qMi
  generalize hAe : va_A ([(mh, .inr (8, [.int (th), .ref m1, .ref m2, .int (nI (kn)), .ref m3, .int (nI (ke)), .ref m4, .int (nI (le)), .ref m5, .int (sp), .int (wr), .int (nI (112)), .int (nI (p)), .int (nI (w)), .int (dn)])), (m1, .inl (cI G, 205, .inl (fun z9 => iI (ss z9)))), (m2, .inl (cI G, 1230, .inl (fun z9 => iI (hi z9)))), (m3, .inl (cI G, 410, .inl (fun z9 => iI (sl z9)))), (m4, .inl (cI G, 80, .inl (fun z9 => nI (tx z9)))), (m5, .inl (cI G, 128, .inl (fun z9 => iI (ne z9))))]) s.heap.size = A at hD hLo hS ⊢
  have hA : ∀ q, s.heap.size ≤ q → A q := fun q h => by rw [← hAe]; exact Or.inr h
  generalize ([] : List Loc) = locs at hS ⊢
  have hP := hP0
  refine lv_aload_n hx hb dX9_does_0 rfl (lv_at hl 0 rfl) ?_
  refine va_get (D := gD G) (cl := vwCl) (tys := tyl G) (ci := 8) (v := .int (nI (112))) (C := RX9) (T := TX9) (N := 15) hx hb hts (by decide +kernel) hown hC.K hP 0 rfl rfl 11 (by decide) (hts (.fieldLink RX9 137 "MotionPostModel" "sign" "I") (by decide +kernel)) (fun _ h9 => h9) rfl dX9_does_1 ?_
  refine lv_bipush (v := nI (115)) hx hb dX9_does_4 (by decide) ?_
  refine lv_icmp_eq (tgt := 18) hx hb dX9_does_6 (by decide) (fun c_1 => ?_) (fun c_1 => ?_)
  · have f_2 : (112 : Int) = (115 : Int) := (c_eq (nI_toInt (n := 112) (by omega)) (nI_toInt (n := 115) (by omega))).mp c_1
    exfalso; omega
  · have f_3 : ¬ (112 : Int) = (115 : Int) := fun z => c_1 ((c_eq (nI_toInt (n := 112) (by omega)) (nI_toInt (n := 115) (by omega))).mpr z)
    refine lv_aload_n hx hb dX9_does_9 rfl (lv_at hl 0 rfl) ?_
    refine va_get (D := gD G) (cl := vwCl) (tys := tyl G) (ci := 8) (v := .int (nI (112))) (C := RX9) (T := TX9) (N := 15) hx hb hts (by decide +kernel) hown hC.K hP 0 rfl rfl 11 (by decide) (hts (.fieldLink RX9 137 "MotionPostModel" "sign" "I") (by decide +kernel)) (fun _ h9 => h9) rfl dX9_does_10 ?_
    refine lv_bipush (v := nI (120)) hx hb dX9_does_13 (by decide) ?_
    refine lv_icmp_ne (tgt := 22) hx hb dX9_does_15 (by decide) (fun c_4 => ?_) (fun c_4 => ?_)
    · have f_5 : ¬ (112 : Int) = (120 : Int) := fun z => c_4 ((c_eq (nI_toInt (n := 112) (by omega)) (nI_toInt (n := 120) (by omega))).mpr z)
      refine lv_iconst (v := nI (0)) hx hb dX9_does_22 (by decide) ?_
      refine lv_istore_n (lv' := [(1, .int (nI (0))), (0, .ref mh)]) hx hb dX9_does_23 rfl hl (by decide) rfl (fun ls hl => ?_)
      refine lv_aload_n hx hb dX9_does_24 rfl (lv_at hl 1 rfl) ?_
      refine va_get (D := gD G) (cl := vwCl) (tys := tyl G) (ci := 8) (v := .int (nI (112))) (C := RX9) (T := TX9) (N := 15) hx hb hts (by decide +kernel) hown hC.K hP 0 rfl rfl 11 (by decide) (hts (.fieldLink RX9 137 "MotionPostModel" "sign" "I") (by decide +kernel)) (fun _ h9 => h9) rfl dX9_does_25 ?_
      refine lv_bipush (v := nI (112)) hx hb dX9_does_28 (by decide) ?_
      refine lv_icmp_ne (tgt := 52) hx hb dX9_does_30 (by decide) (fun c_6 => ?_) (fun c_6 => ?_)
      · have f_7 : ¬ (112 : Int) = (112 : Int) := fun z => c_6 ((c_eq (nI_toInt (n := 112) (by omega)) (nI_toInt (n := 112) (by omega))).mpr z)
        exfalso; omega
      · have f_8 : (112 : Int) = (112 : Int) := (c_eq (nI_toInt (n := 112) (by omega)) (nI_toInt (n := 112) (by omega))).mp c_6
        refine lv_aload_n hx hb dX9_does_33 rfl (lv_at hl 1 rfl) ?_
        refine va_get (D := gD G) (cl := vwCl) (tys := tyl G) (ci := 8) (v := .int (nI (p))) (C := RX9) (T := TX9) (N := 15) hx hb hts (by decide +kernel) hown hC.K hP 0 rfl rfl 12 (by decide) (hts (.fieldLink RX9 143 "MotionPostModel" "one" "I") (by decide +kernel)) (fun _ h9 => h9) rfl dX9_does_34 ?_
        refine kPi (va_runS (As := [.int (nI (p))]) (rest := []) ⟨hx, hb, hml, hown, hts⟩ (c_X9_isPixel (nI (p))) (va_cwS 1 hts gX9_does_X9_isPixel rfl rfl rfl (by decide +kernel) ⟨Nat.le_of_ble_eq_true rfl, Nat.le_of_ble_eq_true rfl⟩) (preS hC hS hLo) rfl rfl hl.1 rfl (lv_room (Nat.le_of_ble_eq_true rfl)) dX9_does_37 ⟨Nat.zero_le _, Nat.zero_le _⟩) hS (fun locs hS => ?_)
        refine topE (v' := nI (1)) (bI_t (by rw [nI_toInt (by omega)]; omega)) ?_
        refine lv_if_eq (tgt := 70) hx hb dX9_does_40 (by decide) (fun c_9 => ?_) (fun c_9 => ?_)
        · have f_10 : (1 : Int) = (0 : Int) := (c_eq (nI_toInt (n := 1) (by omega)) rfl).mp c_9
          exfalso; omega
        · have f_11 : ¬ (1 : Int) = (0 : Int) := fun z => c_9 ((c_eq (nI_toInt (n := 1) (by omega)) rfl).mpr z)
          refine lv_aload_n hx hb dX9_does_43 rfl (lv_at hl 1 rfl) ?_
          refine va_get (D := gD G) (cl := vwCl) (tys := tyl G) (ci := 8) (v := .int (nI (w))) (C := RX9) (T := TX9) (N := 15) hx hb hts (by decide +kernel) hown hC.K hP 0 rfl rfl 13 (by decide) (hts (.fieldLink RX9 146 "MotionPostModel" "two" "I") (by decide +kernel)) (fun _ h9 => h9) rfl dX9_does_44 ?_
          refine lv_bipush (v := nI (15)) hx hb dX9_does_47 (by decide) ?_
          refine lv_icmp_gt (tgt := 70) hx hb dX9_does_49 (by decide) (fun c_12 => ?_) (fun c_12 => ?_)
          · have f_13 : (15 : Int) < ((w : Nat) : Int) := (c_lt (nI_toInt (n := 15) (by omega)) (nI_toInt (n := w) (by omega))).mp c_12
            exfalso; omega
          · have f_14 : ¬ (15 : Int) < ((w : Nat) : Int) := fun z => c_12 ((c_lt (nI_toInt (n := 15) (by omega)) (nI_toInt (n := w) (by omega))).mpr z)
            refine lv_iload_n hx hb dX9_does_52 rfl (lv_at hl 0 rfl) ?_
            refine lv_if_eq (tgt := 72) hx hb dX9_does_53 (by decide) (fun c_15 => ?_) (fun c_15 => ?_)
            · have f_16 : (0 : Int) = (0 : Int) := (c_eq (nI_toInt (n := 0) (by omega)) rfl).mp c_15
              refine lv_aload_n hx hb dX9_does_72 rfl (lv_at hl 1 rfl) ?_
              refine va_get (D := gD G) (cl := vwCl) (tys := tyl G) (ci := 8) (v := .int (nI (112))) (C := RX9) (T := TX9) (N := 15) hx hb hts (by decide +kernel) hown hC.K hP 0 rfl rfl 11 (by decide) (hts (.fieldLink RX9 137 "MotionPostModel" "sign" "I") (by decide +kernel)) (fun _ h9 => h9) rfl dX9_does_73 ?_
              refine lv_bipush (v := nI (112)) hx hb dX9_does_76 (by decide) ?_
              refine lv_icmp_ne (tgt := 96) hx hb dX9_does_78 (by decide) (fun c_17 => ?_) (fun c_17 => ?_)
              · have f_18 : ¬ (112 : Int) = (112 : Int) := fun z => c_17 ((c_eq (nI_toInt (n := 112) (by omega)) (nI_toInt (n := 112) (by omega))).mpr z)
                exfalso; omega
              · have f_19 : (112 : Int) = (112 : Int) := (c_eq (nI_toInt (n := 112) (by omega)) (nI_toInt (n := 112) (by omega))).mp c_17
                refine lv_aload_n hx hb dX9_does_81 rfl (lv_at hl 1 rfl) ?_
                refine lv_aload_n hx hb dX9_does_82 rfl (lv_at hl 1 rfl) ?_
                refine va_get (D := gD G) (cl := vwCl) (tys := tyl G) (ci := 8) (v := .int (nI (p))) (C := RX9) (T := TX9) (N := 15) hx hb hts (by decide +kernel) hown hC.K hP 0 rfl rfl 12 (by decide) (hts (.fieldLink RX9 143 "MotionPostModel" "one" "I") (by decide +kernel)) (fun _ h9 => h9) rfl dX9_does_83 ?_
                refine lv_aload_n hx hb dX9_does_86 rfl (lv_at hl 1 rfl) ?_
                refine va_get (D := gD G) (cl := vwCl) (tys := tyl G) (ci := 8) (v := .int (nI (w))) (C := RX9) (T := TX9) (N := 15) hx hb hts (by decide +kernel) hown hC.K hP 0 rfl rfl 13 (by decide) (hts (.fieldLink RX9 146 "MotionPostModel" "two" "I") (by decide +kernel)) (fun _ h9 => h9) rfl dX9_does_87 ?_
                refine kMi (va_runV (As := [.int (nI (p)), .int (nI (w))]) (rest := []) ⟨hx, hb, hml, hown, hts⟩ (c_X9_draws mh m1 m2 m3 m4 m5 ss hi sl tx ne th kn ke le sp wr (nI (112)) (nI (p)) (nI (w)) dn p ((w : Nat) : Int) (by first | assumption | omega) (hP.sub [0, 1, 2, 3, 4, 5] rfl) ((hD.sub [0, 1, 2, 3, 4, 5] (by decide) rfl).weaken (fun _ _ _ h => hLo _ h))) (cwV 2 hts gX9_does_X9_draws rfl rfl rfl (by decide +kernel) ⟨Nat.le_of_ble_eq_true rfl, Nat.le_of_ble_eq_true rfl⟩) (preV hC hS hLo hP (ci := 8) (q0 := 0) rfl rfl) rfl rfl hl.1 rfl (lv_room (Nat.le_of_ble_eq_true rfl)) dX9_does_90 ⟨Nat.zero_le _, Nat.zero_le _⟩) hP hD hS hA [0, 1, 2, 3, 4, 5] (by decide) rfl (fun _ => rfl) (fun r_22 u_20 H locs q_21 hP hD hS => ?_)
                have hP : PP G ([(mh, .inr (8, [.int (th), .ref m1, .ref m2, .int (nI (kn)), .ref m3, .int (nI (ke)), .ref m4, .int (nI (le)), .ref m5, .int (sp), .int (wr), .int (nI (112)), .int (nI (p)), .int (nI (w)), .int (dn)])), (m1, .inl (cI G, 205, .inl (fun z9 => iI ((va_up ss p ((w : Nat) : Int)) z9)))), (m2, .inl (cI G, 1230, .inl (fun z9 => iI (hi z9)))), (m3, .inl (cI G, 410, .inl (fun z9 => iI (sl z9)))), (m4, .inl (cI G, 80, .inl (fun z9 => nI (tx z9)))), (m5, .inl (cI G, 128, .inl (fun z9 => iI (ne z9))))]) H := hP
                have hD : va_D A ([(mh, .inr (8, [.int (th), .ref m1, .ref m2, .int (nI (kn)), .ref m3, .int (nI (ke)), .ref m4, .int (nI (le)), .ref m5, .int (sp), .int (wr), .int (nI (112)), .int (nI (p)), .int (nI (w)), .int (dn)])), (m1, .inl (cI G, 205, .inl (fun z9 => iI ((va_up ss p ((w : Nat) : Int)) z9)))), (m2, .inl (cI G, 1230, .inl (fun z9 => iI (hi z9)))), (m3, .inl (cI G, 410, .inl (fun z9 => iI (sl z9)))), (m4, .inl (cI G, 80, .inl (fun z9 => nI (tx z9)))), (m5, .inl (cI G, 128, .inl (fun z9 => iI (ne z9))))]) := hD
                refine topE (v' := iI (ss p)) (q_21) ?_
                refine lv_goto (tgt := 179) hx hb dX9_does_93 (by decide) ?_
                refine lv_istore_n (lv' := [(2, .int (iI (ss p))), (1, .int (nI (0))), (0, .ref mh)]) hx hb dX9_does_179 rfl hl (by decide) rfl (fun ls hl => ?_)
                refine lv_iconst (v := nI (1)) hx hb dX9_does_180 (by decide) ?_
                exact xMi (G := G) (post := (fun (r : Int32) (u : Unit) => r = nI (1))) (w1 := (fun (u : Unit) => [(mh, .inr (8, [.int (th), .ref m1, .ref m2, .int (nI (kn)), .ref m3, .int (nI (ke)), .ref m4, .int (nI (le)), .ref m5, .int (sp), .int (wr), .int (nI (112)), .int (nI (p)), .int (nI (w)), .int (dn)])), (m1, .inl (cI G, 205, .inl (fun z9 => iI ((va_up ss p (w : Int)) z9)))), (m2, .inl (cI G, 1230, .inl (fun z9 => iI (hi z9)))), (m3, .inl (cI G, 410, .inl (fun z9 => iI (sl z9)))), (m4, .inl (cI G, 80, .inl (fun z9 => nI (tx z9)))), (m5, .inl (cI G, 128, .inl (fun z9 => iI (ne z9))))])) (()) hx hb hr hlocks hP hS (by exact rfl) (by exact rfl) dX9_does_181
            · have f_23 : ¬ (0 : Int) = (0 : Int) := fun z => c_15 ((c_eq (nI_toInt (n := 0) (by omega)) rfl).mpr z)
              exfalso; omega
    · have f_24 : (112 : Int) = (120 : Int) := (c_eq (nI_toInt (n := 112) (by omega)) (nI_toInt (n := 120) (by omega))).mp c_4
      exfalso; omega

set_option maxHeartbeats 4000000 in
set_option maxRecDepth 100000 in
theorem c_X9_does_p0 {l : Launch} {G : GT} {H0 : Heap} (mh m1 m2 m3 m4 m5 : Nat) (ss hi sl : Nat → Int) (tx : Nat → Nat) (ne : Nat → Int) (th : Int32) (kn ke le : Nat) (sp wr dn : Int32) (p w : Nat) (hpw : p ≤ 99 ∧ w ≤ 99) (hok : ¬ (p < 64 ∧ w ≤ 15)) (hP0 : PP G ([(mh, .inr (8, [.int (th), .ref m1, .ref m2, .int (nI (kn)), .ref m3, .int (nI (ke)), .ref m4, .int (nI (le)), .ref m5, .int (sp), .int (wr), .int (nI (112)), .int (nI (p)), .int (nI (w)), .int (dn)])), (m1, .inl (cI G, 205, .inl (fun z9 => iI (ss z9)))), (m2, .inl (cI G, 1230, .inl (fun z9 => iI (hi z9)))), (m3, .inl (cI G, 410, .inl (fun z9 => iI (sl z9)))), (m4, .inl (cI G, 80, .inl (fun z9 => nI (tx z9)))), (m5, .inl (cI G, 128, .inl (fun z9 => iI (ne z9))))]) H0) (hB0 : va_D (lo G) ([(mh, .inr (8, [.int (th), .ref m1, .ref m2, .int (nI (kn)), .ref m3, .int (nI (ke)), .ref m4, .int (nI (le)), .ref m5, .int (sp), .int (wr), .int (nI (112)), .int (nI (p)), .int (nI (w)), .int (dn)])), (m1, .inl (cI G, 205, .inl (fun z9 => iI (ss z9)))), (m2, .inl (cI G, 1230, .inl (fun z9 => iI (hi z9)))), (m3, .inl (cI G, 410, .inl (fun z9 => iI (sl z9)))), (m4, .inl (cI G, 80, .inl (fun z9 => nI (tx z9)))), (m5, .inl (cI G, 128, .inl (fun z9 => iI (ne z9))))])) : Met l yX9_does wsX9_does ({ frames := 10, cells := 0, slots := 0, locals := 237 } : Room) (pcG G [.ref mh] H0) (qMi G (fun (r : Int32) (u : Unit) => r = nI (0)) (fun (u : Unit) => [(mh, .inr (8, [.int (th), .ref m1, .ref m2, .int (nI (kn)), .ref m3, .int (nI (ke)), .ref m4, .int (nI (le)), .ref m5, .int (sp), .int (wr), .int (nI (112)), .int (nI (p)), .int (nI (w)), .int (dn)])), (m1, .inl (cI G, 205, .inl (fun z9 => iI (ss z9)))), (m2, .inl (cI G, 1230, .inl (fun z9 => iI (hi z9)))), (m3, .inl (cI G, 410, .inl (fun z9 => iI (sl z9)))), (m4, .inl (cI G, 80, .inl (fun z9 => nI (tx z9)))), (m5, .inl (cI G, 128, .inl (fun z9 => iI (ne z9))))]) ([(mh, .inr (8, [.int (th), .ref m1, .ref m2, .int (nI (kn)), .ref m3, .int (nI (ke)), .ref m4, .int (nI (le)), .ref m5, .int (sp), .int (wr), .int (nI (112)), .int (nI (p)), .int (nI (w)), .int (dn)])), (m1, .inl (cI G, 205, .inl (fun z9 => iI (ss z9)))), (m2, .inl (cI G, 1230, .inl (fun z9 => iI (hi z9)))), (m3, .inl (cI G, 410, .inl (fun z9 => iI (sl z9)))), (m4, .inl (cI G, 80, .inl (fun z9 => nI (tx z9)))), (m5, .inl (cI G, 128, .inl (fun z9 => iI (ne z9))))]) H0) 0 0 (va_A ([(mh, .inr (8, [.int (th), .ref m1, .ref m2, .int (nI (kn)), .ref m3, .int (nI (ke)), .ref m4, .int (nI (le)), .ref m5, .int (sp), .int (wr), .int (nI (112)), .int (nI (p)), .int (nI (w)), .int (dn)])), (m1, .inl (cI G, 205, .inl (fun z9 => iI (ss z9)))), (m2, .inl (cI G, 1230, .inl (fun z9 => iI (hi z9)))), (m3, .inl (cI G, 410, .inl (fun z9 => iI (sl z9)))), (m4, .inl (cI G, 80, .inl (fun z9 => nI (tx z9)))), (m5, .inl (cI G, 128, .inl (fun z9 => iI (ne z9))))]) H0.size) := by
  refine enter (cc := cX9_does) (maxL := 3) (ret := some .boolean) (own := RX9) (lv := [(0, .ref mh)]) (by decide) rfl rfl rfl (Nat.le_of_ble_eq_true rfl) ?_
  intro pg ev s m below meth c hx hb hr hts hown hlocks hml hnm hH hC ls hl
  subst hH
  have hLo := va_freeB hB0 hC.2.2.2.1
  have hD := hB0.self (sz := s.heap.size)
  have hS : va_S (va_A ([(mh, .inr (8, [.int (th), .ref m1, .ref m2, .int (nI (kn)), .ref m3, .int (nI (ke)), .ref m4, .int (nI (le)), .ref m5, .int (sp), .int (wr), .int (nI (112)), .int (nI (p)), .int (nI (w)), .int (dn)])), (m1, .inl (cI G, 205, .inl (fun z9 => iI (ss z9)))), (m2, .inl (cI G, 1230, .inl (fun z9 => iI (hi z9)))), (m3, .inl (cI G, 410, .inl (fun z9 => iI (sl z9)))), (m4, .inl (cI G, 80, .inl (fun z9 => nI (tx z9)))), (m5, .inl (cI G, 128, .inl (fun z9 => iI (ne z9))))]) s.heap.size) s.heap s.heap [] := va_S.rf
  unfold qMi
  generalize hAe : va_A ([(mh, .inr (8, [.int (th), .ref m1, .ref m2, .int (nI (kn)), .ref m3, .int (nI (ke)), .ref m4, .int (nI (le)), .ref m5, .int (sp), .int (wr), .int (nI (112)), .int (nI (p)), .int (nI (w)), .int (dn)])), (m1, .inl (cI G, 205, .inl (fun z9 => iI (ss z9)))), (m2, .inl (cI G, 1230, .inl (fun z9 => iI (hi z9)))), (m3, .inl (cI G, 410, .inl (fun z9 => iI (sl z9)))), (m4, .inl (cI G, 80, .inl (fun z9 => nI (tx z9)))), (m5, .inl (cI G, 128, .inl (fun z9 => iI (ne z9))))]) s.heap.size = A at hD hLo hS ⊢
  have hA : ∀ q, s.heap.size ≤ q → A q := fun q h => by rw [← hAe]; exact Or.inr h
  generalize ([] : List Loc) = locs at hS ⊢
  have hP := hP0
  refine lv_aload_n hx hb dX9_does_0 rfl (lv_at hl 0 rfl) ?_
  refine va_get (D := gD G) (cl := vwCl) (tys := tyl G) (ci := 8) (v := .int (nI (112))) (C := RX9) (T := TX9) (N := 15) hx hb hts (by decide +kernel) hown hC.K hP 0 rfl rfl 11 (by decide) (hts (.fieldLink RX9 137 "MotionPostModel" "sign" "I") (by decide +kernel)) (fun _ h9 => h9) rfl dX9_does_1 ?_
  refine lv_bipush (v := nI (115)) hx hb dX9_does_4 (by decide) ?_
  refine lv_icmp_eq (tgt := 18) hx hb dX9_does_6 (by decide) (fun c_1 => ?_) (fun c_1 => ?_)
  · have f_2 : (112 : Int) = (115 : Int) := (c_eq (nI_toInt (n := 112) (by omega)) (nI_toInt (n := 115) (by omega))).mp c_1
    exfalso; omega
  · have f_3 : ¬ (112 : Int) = (115 : Int) := fun z => c_1 ((c_eq (nI_toInt (n := 112) (by omega)) (nI_toInt (n := 115) (by omega))).mpr z)
    refine lv_aload_n hx hb dX9_does_9 rfl (lv_at hl 0 rfl) ?_
    refine va_get (D := gD G) (cl := vwCl) (tys := tyl G) (ci := 8) (v := .int (nI (112))) (C := RX9) (T := TX9) (N := 15) hx hb hts (by decide +kernel) hown hC.K hP 0 rfl rfl 11 (by decide) (hts (.fieldLink RX9 137 "MotionPostModel" "sign" "I") (by decide +kernel)) (fun _ h9 => h9) rfl dX9_does_10 ?_
    refine lv_bipush (v := nI (120)) hx hb dX9_does_13 (by decide) ?_
    refine lv_icmp_ne (tgt := 22) hx hb dX9_does_15 (by decide) (fun c_4 => ?_) (fun c_4 => ?_)
    · have f_5 : ¬ (112 : Int) = (120 : Int) := fun z => c_4 ((c_eq (nI_toInt (n := 112) (by omega)) (nI_toInt (n := 120) (by omega))).mpr z)
      refine lv_iconst (v := nI (0)) hx hb dX9_does_22 (by decide) ?_
      refine lv_istore_n (lv' := [(1, .int (nI (0))), (0, .ref mh)]) hx hb dX9_does_23 rfl hl (by decide) rfl (fun ls hl => ?_)
      refine lv_aload_n hx hb dX9_does_24 rfl (lv_at hl 1 rfl) ?_
      refine va_get (D := gD G) (cl := vwCl) (tys := tyl G) (ci := 8) (v := .int (nI (112))) (C := RX9) (T := TX9) (N := 15) hx hb hts (by decide +kernel) hown hC.K hP 0 rfl rfl 11 (by decide) (hts (.fieldLink RX9 137 "MotionPostModel" "sign" "I") (by decide +kernel)) (fun _ h9 => h9) rfl dX9_does_25 ?_
      refine lv_bipush (v := nI (112)) hx hb dX9_does_28 (by decide) ?_
      refine lv_icmp_ne (tgt := 52) hx hb dX9_does_30 (by decide) (fun c_6 => ?_) (fun c_6 => ?_)
      · have f_7 : ¬ (112 : Int) = (112 : Int) := fun z => c_6 ((c_eq (nI_toInt (n := 112) (by omega)) (nI_toInt (n := 112) (by omega))).mpr z)
        exfalso; omega
      · have f_8 : (112 : Int) = (112 : Int) := (c_eq (nI_toInt (n := 112) (by omega)) (nI_toInt (n := 112) (by omega))).mp c_6
        refine lv_aload_n hx hb dX9_does_33 rfl (lv_at hl 1 rfl) ?_
        refine va_get (D := gD G) (cl := vwCl) (tys := tyl G) (ci := 8) (v := .int (nI (p))) (C := RX9) (T := TX9) (N := 15) hx hb hts (by decide +kernel) hown hC.K hP 0 rfl rfl 12 (by decide) (hts (.fieldLink RX9 143 "MotionPostModel" "one" "I") (by decide +kernel)) (fun _ h9 => h9) rfl dX9_does_34 ?_
        refine kPi (va_runS (As := [.int (nI (p))]) (rest := []) ⟨hx, hb, hml, hown, hts⟩ (c_X9_isPixel (nI (p))) (va_cwS 1 hts gX9_does_X9_isPixel rfl rfl rfl (by decide +kernel) ⟨Nat.le_of_ble_eq_true rfl, Nat.le_of_ble_eq_true rfl⟩) (preS hC hS hLo) rfl rfl hl.1 rfl (lv_room (Nat.le_of_ble_eq_true rfl)) dX9_does_37 ⟨Nat.zero_le _, Nat.zero_le _⟩) hS (fun locs hS => ?_)
        refine topE (v' := bI (p < 64)) (bI_c (by rw [nI_toInt (by omega)]; omega)) ?_
        refine lv_if_eq (tgt := 70) hx hb dX9_does_40 (by decide) (fun c_9 => ?_) (fun c_9 => ?_)
        · have f_10 : ¬ (p < 64) := bI_0.mp c_9
          refine lv_iconst (v := nI (0)) hx hb dX9_does_70 (by decide) ?_
          exact xMi (G := G) (post := (fun (r : Int32) (u : Unit) => r = nI (0))) (w1 := (fun (u : Unit) => [(mh, .inr (8, [.int (th), .ref m1, .ref m2, .int (nI (kn)), .ref m3, .int (nI (ke)), .ref m4, .int (nI (le)), .ref m5, .int (sp), .int (wr), .int (nI (112)), .int (nI (p)), .int (nI (w)), .int (dn)])), (m1, .inl (cI G, 205, .inl (fun z9 => iI (ss z9)))), (m2, .inl (cI G, 1230, .inl (fun z9 => iI (hi z9)))), (m3, .inl (cI G, 410, .inl (fun z9 => iI (sl z9)))), (m4, .inl (cI G, 80, .inl (fun z9 => nI (tx z9)))), (m5, .inl (cI G, 128, .inl (fun z9 => iI (ne z9))))])) (()) hx hb hr hlocks hP hS (by exact rfl) (by exact rfl) dX9_does_71
        · have f_11 : (p < 64) := Classical.byContradiction (fun z => c_9 (bI_0.mpr z))
          refine lv_aload_n hx hb dX9_does_43 rfl (lv_at hl 1 rfl) ?_
          refine va_get (D := gD G) (cl := vwCl) (tys := tyl G) (ci := 8) (v := .int (nI (w))) (C := RX9) (T := TX9) (N := 15) hx hb hts (by decide +kernel) hown hC.K hP 0 rfl rfl 13 (by decide) (hts (.fieldLink RX9 146 "MotionPostModel" "two" "I") (by decide +kernel)) (fun _ h9 => h9) rfl dX9_does_44 ?_
          refine lv_bipush (v := nI (15)) hx hb dX9_does_47 (by decide) ?_
          refine lv_icmp_gt (tgt := 70) hx hb dX9_does_49 (by decide) (fun c_12 => ?_) (fun c_12 => ?_)
          · have f_13 : (15 : Int) < ((w : Nat) : Int) := (c_lt (nI_toInt (n := 15) (by omega)) (nI_toInt (n := w) (by omega))).mp c_12
            refine lv_iconst (v := nI (0)) hx hb dX9_does_70 (by decide) ?_
            exact xMi (G := G) (post := (fun (r : Int32) (u : Unit) => r = nI (0))) (w1 := (fun (u : Unit) => [(mh, .inr (8, [.int (th), .ref m1, .ref m2, .int (nI (kn)), .ref m3, .int (nI (ke)), .ref m4, .int (nI (le)), .ref m5, .int (sp), .int (wr), .int (nI (112)), .int (nI (p)), .int (nI (w)), .int (dn)])), (m1, .inl (cI G, 205, .inl (fun z9 => iI (ss z9)))), (m2, .inl (cI G, 1230, .inl (fun z9 => iI (hi z9)))), (m3, .inl (cI G, 410, .inl (fun z9 => iI (sl z9)))), (m4, .inl (cI G, 80, .inl (fun z9 => nI (tx z9)))), (m5, .inl (cI G, 128, .inl (fun z9 => iI (ne z9))))])) (()) hx hb hr hlocks hP hS (by exact rfl) (by exact rfl) dX9_does_71
          · have f_14 : ¬ (15 : Int) < ((w : Nat) : Int) := fun z => c_12 ((c_lt (nI_toInt (n := 15) (by omega)) (nI_toInt (n := w) (by omega))).mpr z)
            exfalso; omega
    · have f_15 : (112 : Int) = (120 : Int) := (c_eq (nI_toInt (n := 112) (by omega)) (nI_toInt (n := 120) (by omega))).mp c_4
      exfalso; omega

set_option maxHeartbeats 4000000 in
set_option maxRecDepth 100000 in
theorem c_X9_does_u {l : Launch} {G : GT} {H0 : Heap} (mh m1 m2 m3 m4 m5 : Nat) (ss hi sl : Nat → Int) (tx : Nat → Nat) (ne : Nat → Int) (th : Int32) (kn ke le : Nat) (sp wr on tw dn : Int32) (hMR : MR ss) (hP0 : PP G ([(mh, .inr (8, [.int (th), .ref m1, .ref m2, .int (nI (kn)), .ref m3, .int (nI (ke)), .ref m4, .int (nI (le)), .ref m5, .int (sp), .int (wr), .int (nI (117)), .int (on), .int (tw), .int (dn)])), (m1, .inl (cI G, 205, .inl (fun z9 => iI (ss z9)))), (m2, .inl (cI G, 1230, .inl (fun z9 => iI (hi z9)))), (m3, .inl (cI G, 410, .inl (fun z9 => iI (sl z9)))), (m4, .inl (cI G, 80, .inl (fun z9 => nI (tx z9)))), (m5, .inl (cI G, 128, .inl (fun z9 => iI (ne z9))))]) H0) (hB0 : va_D (lo G) ([(mh, .inr (8, [.int (th), .ref m1, .ref m2, .int (nI (kn)), .ref m3, .int (nI (ke)), .ref m4, .int (nI (le)), .ref m5, .int (sp), .int (wr), .int (nI (117)), .int (on), .int (tw), .int (dn)])), (m1, .inl (cI G, 205, .inl (fun z9 => iI (ss z9)))), (m2, .inl (cI G, 1230, .inl (fun z9 => iI (hi z9)))), (m3, .inl (cI G, 410, .inl (fun z9 => iI (sl z9)))), (m4, .inl (cI G, 80, .inl (fun z9 => nI (tx z9)))), (m5, .inl (cI G, 128, .inl (fun z9 => iI (ne z9))))])) : Met l yX9_does wsX9_does ({ frames := 10, cells := 0, slots := 0, locals := 237 } : Room) (pcG G [.ref mh] H0) (qMi G (fun (r : Int32) (u : Unit) => r = nI (1)) (fun (u : Unit) => [(mh, .inr (8, [.int (th), .ref m1, .ref m2, .int (nI (kn)), .ref m3, .int (nI (ke)), .ref m4, .int (nI (le)), .ref m5, .int (sp), .int (wr), .int (nI (117)), .int (on), .int (tw), .int (dn)])), (m1, .inl (cI G, 205, .inl (fun z9 => iI (((tkm ss (1) (0) ss 64).1) z9)))), (m2, .inl (cI G, 1230, .inl (fun z9 => iI (hi z9)))), (m3, .inl (cI G, 410, .inl (fun z9 => iI (sl z9)))), (m4, .inl (cI G, 80, .inl (fun z9 => nI (tx z9)))), (m5, .inl (cI G, 128, .inl (fun z9 => iI ((neS ne ss (1) (0) 64) z9))))]) ([(mh, .inr (8, [.int (th), .ref m1, .ref m2, .int (nI (kn)), .ref m3, .int (nI (ke)), .ref m4, .int (nI (le)), .ref m5, .int (sp), .int (wr), .int (nI (117)), .int (on), .int (tw), .int (dn)])), (m1, .inl (cI G, 205, .inl (fun z9 => iI (ss z9)))), (m2, .inl (cI G, 1230, .inl (fun z9 => iI (hi z9)))), (m3, .inl (cI G, 410, .inl (fun z9 => iI (sl z9)))), (m4, .inl (cI G, 80, .inl (fun z9 => nI (tx z9)))), (m5, .inl (cI G, 128, .inl (fun z9 => iI (ne z9))))]) H0) 0 0 (va_A ([(mh, .inr (8, [.int (th), .ref m1, .ref m2, .int (nI (kn)), .ref m3, .int (nI (ke)), .ref m4, .int (nI (le)), .ref m5, .int (sp), .int (wr), .int (nI (117)), .int (on), .int (tw), .int (dn)])), (m1, .inl (cI G, 205, .inl (fun z9 => iI (ss z9)))), (m2, .inl (cI G, 1230, .inl (fun z9 => iI (hi z9)))), (m3, .inl (cI G, 410, .inl (fun z9 => iI (sl z9)))), (m4, .inl (cI G, 80, .inl (fun z9 => nI (tx z9)))), (m5, .inl (cI G, 128, .inl (fun z9 => iI (ne z9))))]) H0.size) := by
  refine enter (cc := cX9_does) (maxL := 3) (ret := some .boolean) (own := RX9) (lv := [(0, .ref mh)]) (by decide) rfl rfl rfl (Nat.le_of_ble_eq_true rfl) ?_
  intro pg ev s m below meth c hx hb hr hts hown hlocks hml hnm hH hC ls hl
  subst hH
  have hLo := va_freeB hB0 hC.2.2.2.1
  have hD := hB0.self (sz := s.heap.size)
  have hS : va_S (va_A ([(mh, .inr (8, [.int (th), .ref m1, .ref m2, .int (nI (kn)), .ref m3, .int (nI (ke)), .ref m4, .int (nI (le)), .ref m5, .int (sp), .int (wr), .int (nI (117)), .int (on), .int (tw), .int (dn)])), (m1, .inl (cI G, 205, .inl (fun z9 => iI (ss z9)))), (m2, .inl (cI G, 1230, .inl (fun z9 => iI (hi z9)))), (m3, .inl (cI G, 410, .inl (fun z9 => iI (sl z9)))), (m4, .inl (cI G, 80, .inl (fun z9 => nI (tx z9)))), (m5, .inl (cI G, 128, .inl (fun z9 => iI (ne z9))))]) s.heap.size) s.heap s.heap [] := va_S.rf
  unfold qMi
  generalize hAe : va_A ([(mh, .inr (8, [.int (th), .ref m1, .ref m2, .int (nI (kn)), .ref m3, .int (nI (ke)), .ref m4, .int (nI (le)), .ref m5, .int (sp), .int (wr), .int (nI (117)), .int (on), .int (tw), .int (dn)])), (m1, .inl (cI G, 205, .inl (fun z9 => iI (ss z9)))), (m2, .inl (cI G, 1230, .inl (fun z9 => iI (hi z9)))), (m3, .inl (cI G, 410, .inl (fun z9 => iI (sl z9)))), (m4, .inl (cI G, 80, .inl (fun z9 => nI (tx z9)))), (m5, .inl (cI G, 128, .inl (fun z9 => iI (ne z9))))]) s.heap.size = A at hD hLo hS ⊢
  have hA : ∀ q, s.heap.size ≤ q → A q := fun q h => by rw [← hAe]; exact Or.inr h
  generalize ([] : List Loc) = locs at hS ⊢
  have hP := hP0
  refine lv_aload_n hx hb dX9_does_0 rfl (lv_at hl 0 rfl) ?_
  refine va_get (D := gD G) (cl := vwCl) (tys := tyl G) (ci := 8) (v := .int (nI (117))) (C := RX9) (T := TX9) (N := 15) hx hb hts (by decide +kernel) hown hC.K hP 0 rfl rfl 11 (by decide) (hts (.fieldLink RX9 137 "MotionPostModel" "sign" "I") (by decide +kernel)) (fun _ h9 => h9) rfl dX9_does_1 ?_
  refine lv_bipush (v := nI (115)) hx hb dX9_does_4 (by decide) ?_
  refine lv_icmp_eq (tgt := 18) hx hb dX9_does_6 (by decide) (fun c_1 => ?_) (fun c_1 => ?_)
  · have f_2 : (117 : Int) = (115 : Int) := (c_eq (nI_toInt (n := 117) (by omega)) (nI_toInt (n := 115) (by omega))).mp c_1
    exfalso; omega
  · have f_3 : ¬ (117 : Int) = (115 : Int) := fun z => c_1 ((c_eq (nI_toInt (n := 117) (by omega)) (nI_toInt (n := 115) (by omega))).mpr z)
    refine lv_aload_n hx hb dX9_does_9 rfl (lv_at hl 0 rfl) ?_
    refine va_get (D := gD G) (cl := vwCl) (tys := tyl G) (ci := 8) (v := .int (nI (117))) (C := RX9) (T := TX9) (N := 15) hx hb hts (by decide +kernel) hown hC.K hP 0 rfl rfl 11 (by decide) (hts (.fieldLink RX9 137 "MotionPostModel" "sign" "I") (by decide +kernel)) (fun _ h9 => h9) rfl dX9_does_10 ?_
    refine lv_bipush (v := nI (120)) hx hb dX9_does_13 (by decide) ?_
    refine lv_icmp_ne (tgt := 22) hx hb dX9_does_15 (by decide) (fun c_4 => ?_) (fun c_4 => ?_)
    · have f_5 : ¬ (117 : Int) = (120 : Int) := fun z => c_4 ((c_eq (nI_toInt (n := 117) (by omega)) (nI_toInt (n := 120) (by omega))).mpr z)
      refine lv_iconst (v := nI (0)) hx hb dX9_does_22 (by decide) ?_
      refine lv_istore_n (lv' := [(1, .int (nI (0))), (0, .ref mh)]) hx hb dX9_does_23 rfl hl (by decide) rfl (fun ls hl => ?_)
      refine lv_aload_n hx hb dX9_does_24 rfl (lv_at hl 1 rfl) ?_
      refine va_get (D := gD G) (cl := vwCl) (tys := tyl G) (ci := 8) (v := .int (nI (117))) (C := RX9) (T := TX9) (N := 15) hx hb hts (by decide +kernel) hown hC.K hP 0 rfl rfl 11 (by decide) (hts (.fieldLink RX9 137 "MotionPostModel" "sign" "I") (by decide +kernel)) (fun _ h9 => h9) rfl dX9_does_25 ?_
      refine lv_bipush (v := nI (112)) hx hb dX9_does_28 (by decide) ?_
      refine lv_icmp_ne (tgt := 52) hx hb dX9_does_30 (by decide) (fun c_6 => ?_) (fun c_6 => ?_)
      · have f_7 : ¬ (117 : Int) = (112 : Int) := fun z => c_6 ((c_eq (nI_toInt (n := 117) (by omega)) (nI_toInt (n := 112) (by omega))).mpr z)
        refine lv_iload_n hx hb dX9_does_52 rfl (lv_at hl 0 rfl) ?_
        refine lv_if_eq (tgt := 72) hx hb dX9_does_53 (by decide) (fun c_8 => ?_) (fun c_8 => ?_)
        · have f_9 : (0 : Int) = (0 : Int) := (c_eq (nI_toInt (n := 0) (by omega)) rfl).mp c_8
          refine lv_aload_n hx hb dX9_does_72 rfl (lv_at hl 1 rfl) ?_
          refine va_get (D := gD G) (cl := vwCl) (tys := tyl G) (ci := 8) (v := .int (nI (117))) (C := RX9) (T := TX9) (N := 15) hx hb hts (by decide +kernel) hown hC.K hP 0 rfl rfl 11 (by decide) (hts (.fieldLink RX9 137 "MotionPostModel" "sign" "I") (by decide +kernel)) (fun _ h9 => h9) rfl dX9_does_73 ?_
          refine lv_bipush (v := nI (112)) hx hb dX9_does_76 (by decide) ?_
          refine lv_icmp_ne (tgt := 96) hx hb dX9_does_78 (by decide) (fun c_10 => ?_) (fun c_10 => ?_)
          · have f_11 : ¬ (117 : Int) = (112 : Int) := fun z => c_10 ((c_eq (nI_toInt (n := 117) (by omega)) (nI_toInt (n := 112) (by omega))).mpr z)
            refine lv_iload_n hx hb dX9_does_96 rfl (lv_at hl 0 rfl) ?_
            refine lv_if_eq (tgt := 121) hx hb dX9_does_97 (by decide) (fun c_12 => ?_) (fun c_12 => ?_)
            · have f_13 : (0 : Int) = (0 : Int) := (c_eq (nI_toInt (n := 0) (by omega)) rfl).mp c_12
              refine lv_aload_n hx hb dX9_does_121 rfl (lv_at hl 1 rfl) ?_
              refine lv_aload_n hx hb dX9_does_122 rfl (lv_at hl 1 rfl) ?_
              refine va_get (D := gD G) (cl := vwCl) (tys := tyl G) (ci := 8) (v := .int (nI (117))) (C := RX9) (T := TX9) (N := 15) hx hb hts (by decide +kernel) hown hC.K hP 0 rfl rfl 11 (by decide) (hts (.fieldLink RX9 137 "MotionPostModel" "sign" "I") (by decide +kernel)) (fun _ h9 => h9) rfl dX9_does_123 ?_
              refine lv_bipush (v := nI (117)) hx hb dX9_does_126 (by decide) ?_
              refine lv_icmp_ne (tgt := 135) hx hb dX9_does_128 (by decide) (fun c_14 => ?_) (fun c_14 => ?_)
              · have f_15 : ¬ (117 : Int) = (117 : Int) := fun z => c_14 ((c_eq (nI_toInt (n := 117) (by omega)) (nI_toInt (n := 117) (by omega))).mpr z)
                exfalso; omega
              · have f_16 : (117 : Int) = (117 : Int) := (c_eq (nI_toInt (n := 117) (by omega)) (nI_toInt (n := 117) (by omega))).mp c_14
                refine lv_iconst (v := nI (1)) hx hb dX9_does_131 (by decide) ?_
                refine lv_goto (tgt := 149) hx hb dX9_does_132 (by decide) ?_
                refine lv_aload_n hx hb dX9_does_149 rfl (lv_at hl 1 rfl) ?_
                refine va_get (D := gD G) (cl := vwCl) (tys := tyl G) (ci := 8) (v := .int (nI (117))) (C := RX9) (T := TX9) (N := 15) hx hb hts (by decide +kernel) hown hC.K hP 0 rfl rfl 11 (by decide) (hts (.fieldLink RX9 137 "MotionPostModel" "sign" "I") (by decide +kernel)) (fun _ h9 => h9) rfl dX9_does_150 ?_
                refine lv_bipush (v := nI (108)) hx hb dX9_does_153 (by decide) ?_
                refine lv_icmp_ne (tgt := 162) hx hb dX9_does_155 (by decide) (fun c_17 => ?_) (fun c_17 => ?_)
                · have f_18 : ¬ (117 : Int) = (108 : Int) := fun z => c_17 ((c_eq (nI_toInt (n := 117) (by omega)) (nI_toInt (n := 108) (by omega))).mpr z)
                  refine lv_aload_n hx hb dX9_does_162 rfl (lv_at hl 1 rfl) ?_
                  refine va_get (D := gD G) (cl := vwCl) (tys := tyl G) (ci := 8) (v := .int (nI (117))) (C := RX9) (T := TX9) (N := 15) hx hb hts (by decide +kernel) hown hC.K hP 0 rfl rfl 11 (by decide) (hts (.fieldLink RX9 137 "MotionPostModel" "sign" "I") (by decide +kernel)) (fun _ h9 => h9) rfl dX9_does_163 ?_
                  refine lv_bipush (v := nI (114)) hx hb dX9_does_166 (by decide) ?_
                  refine lv_icmp_ne (tgt := 175) hx hb dX9_does_168 (by decide) (fun c_19 => ?_) (fun c_19 => ?_)
                  · have f_20 : ¬ (117 : Int) = (114 : Int) := fun z => c_19 ((c_eq (nI_toInt (n := 117) (by omega)) (nI_toInt (n := 114) (by omega))).mpr z)
                    refine lv_iconst (v := nI (0)) hx hb dX9_does_175 (by decide) ?_
                    refine kMi (va_runV (As := [.int (nI (1)), .int (nI (0))]) (rest := []) ⟨hx, hb, hml, hown, hts⟩ (c_X9_scrolls mh m1 m2 m3 m4 m5 ss hi sl tx ne th kn ke le sp wr (nI (117)) on tw dn 1 0 (by first | assumption | omega) (by first | assumption | omega) (by first | assumption | omega) (hP.sub [0, 1, 2, 3, 4, 5] rfl) ((hD.sub [0, 1, 2, 3, 4, 5] (by decide) rfl).weaken (fun _ _ _ h => hLo _ h))) (cwV 2 hts gX9_does_X9_scrolls rfl rfl rfl (by decide +kernel) ⟨Nat.le_of_ble_eq_true rfl, Nat.le_of_ble_eq_true rfl⟩) (preV hC hS hLo hP (ci := 8) (q0 := 0) rfl rfl) rfl rfl hl.1 rfl (lv_room (Nat.le_of_ble_eq_true rfl)) dX9_does_176 ⟨Nat.zero_le _, Nat.zero_le _⟩) hP hD hS hA [0, 1, 2, 3, 4, 5] (by decide) rfl (fun _ => rfl) (fun r_23 u_21 H locs q_22 hP hD hS => ?_)
                    have hP : PP G ([(mh, .inr (8, [.int (th), .ref m1, .ref m2, .int (nI (kn)), .ref m3, .int (nI (ke)), .ref m4, .int (nI (le)), .ref m5, .int (sp), .int (wr), .int (nI (117)), .int (on), .int (tw), .int (dn)])), (m1, .inl (cI G, 205, .inl (fun z9 => iI (((tkm ss 1 0 ss 64).1) z9)))), (m2, .inl (cI G, 1230, .inl (fun z9 => iI (hi z9)))), (m3, .inl (cI G, 410, .inl (fun z9 => iI (sl z9)))), (m4, .inl (cI G, 80, .inl (fun z9 => nI (tx z9)))), (m5, .inl (cI G, 128, .inl (fun z9 => iI ((neS ne ss 1 0 64) z9))))]) H := hP
                    have hD : va_D A ([(mh, .inr (8, [.int (th), .ref m1, .ref m2, .int (nI (kn)), .ref m3, .int (nI (ke)), .ref m4, .int (nI (le)), .ref m5, .int (sp), .int (wr), .int (nI (117)), .int (on), .int (tw), .int (dn)])), (m1, .inl (cI G, 205, .inl (fun z9 => iI (((tkm ss 1 0 ss 64).1) z9)))), (m2, .inl (cI G, 1230, .inl (fun z9 => iI (hi z9)))), (m3, .inl (cI G, 410, .inl (fun z9 => iI (sl z9)))), (m4, .inl (cI G, 80, .inl (fun z9 => nI (tx z9)))), (m5, .inl (cI G, 128, .inl (fun z9 => iI ((neS ne ss 1 0 64) z9))))]) := hD
                    refine topE (v' := nI ((tkm ss 1 0 ss 64).2)) (q_22) ?_
                    refine lv_istore_n (lv' := [(2, .int (nI ((tkm ss 1 0 ss 64).2))), (1, .int (nI (0))), (0, .ref mh)]) hx hb dX9_does_179 rfl hl (by decide) rfl (fun ls hl => ?_)
                    refine lv_iconst (v := nI (1)) hx hb dX9_does_180 (by decide) ?_
                    exact xMi (G := G) (post := (fun (r : Int32) (u : Unit) => r = nI (1))) (w1 := (fun (u : Unit) => [(mh, .inr (8, [.int (th), .ref m1, .ref m2, .int (nI (kn)), .ref m3, .int (nI (ke)), .ref m4, .int (nI (le)), .ref m5, .int (sp), .int (wr), .int (nI (117)), .int (on), .int (tw), .int (dn)])), (m1, .inl (cI G, 205, .inl (fun z9 => iI (((tkm ss (1) (0) ss 64).1) z9)))), (m2, .inl (cI G, 1230, .inl (fun z9 => iI (hi z9)))), (m3, .inl (cI G, 410, .inl (fun z9 => iI (sl z9)))), (m4, .inl (cI G, 80, .inl (fun z9 => nI (tx z9)))), (m5, .inl (cI G, 128, .inl (fun z9 => iI ((neS ne ss (1) (0) 64) z9))))])) (()) hx hb hr hlocks hP hS (by exact rfl) (by exact rfl) dX9_does_181
                  · have f_24 : (117 : Int) = (114 : Int) := (c_eq (nI_toInt (n := 117) (by omega)) (nI_toInt (n := 114) (by omega))).mp c_19
                    exfalso; omega
                · have f_25 : (117 : Int) = (108 : Int) := (c_eq (nI_toInt (n := 117) (by omega)) (nI_toInt (n := 108) (by omega))).mp c_17
                  exfalso; omega
            · have f_26 : ¬ (0 : Int) = (0 : Int) := fun z => c_12 ((c_eq (nI_toInt (n := 0) (by omega)) rfl).mpr z)
              exfalso; omega
          · have f_27 : (117 : Int) = (112 : Int) := (c_eq (nI_toInt (n := 117) (by omega)) (nI_toInt (n := 112) (by omega))).mp c_10
            exfalso; omega
        · have f_28 : ¬ (0 : Int) = (0 : Int) := fun z => c_8 ((c_eq (nI_toInt (n := 0) (by omega)) rfl).mpr z)
          exfalso; omega
      · have f_29 : (117 : Int) = (112 : Int) := (c_eq (nI_toInt (n := 117) (by omega)) (nI_toInt (n := 112) (by omega))).mp c_6
        exfalso; omega
    · have f_30 : (117 : Int) = (120 : Int) := (c_eq (nI_toInt (n := 117) (by omega)) (nI_toInt (n := 120) (by omega))).mp c_4
      exfalso; omega

set_option maxHeartbeats 4000000 in
set_option maxRecDepth 100000 in
theorem c_X9_does_d {l : Launch} {G : GT} {H0 : Heap} (mh m1 m2 m3 m4 m5 : Nat) (ss hi sl : Nat → Int) (tx : Nat → Nat) (ne : Nat → Int) (th : Int32) (kn ke le : Nat) (sp wr on tw dn : Int32) (hMR : MR ss) (hP0 : PP G ([(mh, .inr (8, [.int (th), .ref m1, .ref m2, .int (nI (kn)), .ref m3, .int (nI (ke)), .ref m4, .int (nI (le)), .ref m5, .int (sp), .int (wr), .int (nI (100)), .int (on), .int (tw), .int (dn)])), (m1, .inl (cI G, 205, .inl (fun z9 => iI (ss z9)))), (m2, .inl (cI G, 1230, .inl (fun z9 => iI (hi z9)))), (m3, .inl (cI G, 410, .inl (fun z9 => iI (sl z9)))), (m4, .inl (cI G, 80, .inl (fun z9 => nI (tx z9)))), (m5, .inl (cI G, 128, .inl (fun z9 => iI (ne z9))))]) H0) (hB0 : va_D (lo G) ([(mh, .inr (8, [.int (th), .ref m1, .ref m2, .int (nI (kn)), .ref m3, .int (nI (ke)), .ref m4, .int (nI (le)), .ref m5, .int (sp), .int (wr), .int (nI (100)), .int (on), .int (tw), .int (dn)])), (m1, .inl (cI G, 205, .inl (fun z9 => iI (ss z9)))), (m2, .inl (cI G, 1230, .inl (fun z9 => iI (hi z9)))), (m3, .inl (cI G, 410, .inl (fun z9 => iI (sl z9)))), (m4, .inl (cI G, 80, .inl (fun z9 => nI (tx z9)))), (m5, .inl (cI G, 128, .inl (fun z9 => iI (ne z9))))])) : Met l yX9_does wsX9_does ({ frames := 10, cells := 0, slots := 0, locals := 237 } : Room) (pcG G [.ref mh] H0) (qMi G (fun (r : Int32) (u : Unit) => r = nI (1)) (fun (u : Unit) => [(mh, .inr (8, [.int (th), .ref m1, .ref m2, .int (nI (kn)), .ref m3, .int (nI (ke)), .ref m4, .int (nI (le)), .ref m5, .int (sp), .int (wr), .int (nI (100)), .int (on), .int (tw), .int (dn)])), (m1, .inl (cI G, 205, .inl (fun z9 => iI (((tkm ss (-1) (0) ss 64).1) z9)))), (m2, .inl (cI G, 1230, .inl (fun z9 => iI (hi z9)))), (m3, .inl (cI G, 410, .inl (fun z9 => iI (sl z9)))), (m4, .inl (cI G, 80, .inl (fun z9 => nI (tx z9)))), (m5, .inl (cI G, 128, .inl (fun z9 => iI ((neS ne ss (-1) (0) 64) z9))))]) ([(mh, .inr (8, [.int (th), .ref m1, .ref m2, .int (nI (kn)), .ref m3, .int (nI (ke)), .ref m4, .int (nI (le)), .ref m5, .int (sp), .int (wr), .int (nI (100)), .int (on), .int (tw), .int (dn)])), (m1, .inl (cI G, 205, .inl (fun z9 => iI (ss z9)))), (m2, .inl (cI G, 1230, .inl (fun z9 => iI (hi z9)))), (m3, .inl (cI G, 410, .inl (fun z9 => iI (sl z9)))), (m4, .inl (cI G, 80, .inl (fun z9 => nI (tx z9)))), (m5, .inl (cI G, 128, .inl (fun z9 => iI (ne z9))))]) H0) 0 0 (va_A ([(mh, .inr (8, [.int (th), .ref m1, .ref m2, .int (nI (kn)), .ref m3, .int (nI (ke)), .ref m4, .int (nI (le)), .ref m5, .int (sp), .int (wr), .int (nI (100)), .int (on), .int (tw), .int (dn)])), (m1, .inl (cI G, 205, .inl (fun z9 => iI (ss z9)))), (m2, .inl (cI G, 1230, .inl (fun z9 => iI (hi z9)))), (m3, .inl (cI G, 410, .inl (fun z9 => iI (sl z9)))), (m4, .inl (cI G, 80, .inl (fun z9 => nI (tx z9)))), (m5, .inl (cI G, 128, .inl (fun z9 => iI (ne z9))))]) H0.size) := by
  refine enter (cc := cX9_does) (maxL := 3) (ret := some .boolean) (own := RX9) (lv := [(0, .ref mh)]) (by decide) rfl rfl rfl (Nat.le_of_ble_eq_true rfl) ?_
  intro pg ev s m below meth c hx hb hr hts hown hlocks hml hnm hH hC ls hl
  subst hH
  have hLo := va_freeB hB0 hC.2.2.2.1
  have hD := hB0.self (sz := s.heap.size)
  have hS : va_S (va_A ([(mh, .inr (8, [.int (th), .ref m1, .ref m2, .int (nI (kn)), .ref m3, .int (nI (ke)), .ref m4, .int (nI (le)), .ref m5, .int (sp), .int (wr), .int (nI (100)), .int (on), .int (tw), .int (dn)])), (m1, .inl (cI G, 205, .inl (fun z9 => iI (ss z9)))), (m2, .inl (cI G, 1230, .inl (fun z9 => iI (hi z9)))), (m3, .inl (cI G, 410, .inl (fun z9 => iI (sl z9)))), (m4, .inl (cI G, 80, .inl (fun z9 => nI (tx z9)))), (m5, .inl (cI G, 128, .inl (fun z9 => iI (ne z9))))]) s.heap.size) s.heap s.heap [] := va_S.rf
  unfold qMi
  generalize hAe : va_A ([(mh, .inr (8, [.int (th), .ref m1, .ref m2, .int (nI (kn)), .ref m3, .int (nI (ke)), .ref m4, .int (nI (le)), .ref m5, .int (sp), .int (wr), .int (nI (100)), .int (on), .int (tw), .int (dn)])), (m1, .inl (cI G, 205, .inl (fun z9 => iI (ss z9)))), (m2, .inl (cI G, 1230, .inl (fun z9 => iI (hi z9)))), (m3, .inl (cI G, 410, .inl (fun z9 => iI (sl z9)))), (m4, .inl (cI G, 80, .inl (fun z9 => nI (tx z9)))), (m5, .inl (cI G, 128, .inl (fun z9 => iI (ne z9))))]) s.heap.size = A at hD hLo hS ⊢
  have hA : ∀ q, s.heap.size ≤ q → A q := fun q h => by rw [← hAe]; exact Or.inr h
  generalize ([] : List Loc) = locs at hS ⊢
  have hP := hP0
  refine lv_aload_n hx hb dX9_does_0 rfl (lv_at hl 0 rfl) ?_
  refine va_get (D := gD G) (cl := vwCl) (tys := tyl G) (ci := 8) (v := .int (nI (100))) (C := RX9) (T := TX9) (N := 15) hx hb hts (by decide +kernel) hown hC.K hP 0 rfl rfl 11 (by decide) (hts (.fieldLink RX9 137 "MotionPostModel" "sign" "I") (by decide +kernel)) (fun _ h9 => h9) rfl dX9_does_1 ?_
  refine lv_bipush (v := nI (115)) hx hb dX9_does_4 (by decide) ?_
  refine lv_icmp_eq (tgt := 18) hx hb dX9_does_6 (by decide) (fun c_1 => ?_) (fun c_1 => ?_)
  · have f_2 : (100 : Int) = (115 : Int) := (c_eq (nI_toInt (n := 100) (by omega)) (nI_toInt (n := 115) (by omega))).mp c_1
    exfalso; omega
  · have f_3 : ¬ (100 : Int) = (115 : Int) := fun z => c_1 ((c_eq (nI_toInt (n := 100) (by omega)) (nI_toInt (n := 115) (by omega))).mpr z)
    refine lv_aload_n hx hb dX9_does_9 rfl (lv_at hl 0 rfl) ?_
    refine va_get (D := gD G) (cl := vwCl) (tys := tyl G) (ci := 8) (v := .int (nI (100))) (C := RX9) (T := TX9) (N := 15) hx hb hts (by decide +kernel) hown hC.K hP 0 rfl rfl 11 (by decide) (hts (.fieldLink RX9 137 "MotionPostModel" "sign" "I") (by decide +kernel)) (fun _ h9 => h9) rfl dX9_does_10 ?_
    refine lv_bipush (v := nI (120)) hx hb dX9_does_13 (by decide) ?_
    refine lv_icmp_ne (tgt := 22) hx hb dX9_does_15 (by decide) (fun c_4 => ?_) (fun c_4 => ?_)
    · have f_5 : ¬ (100 : Int) = (120 : Int) := fun z => c_4 ((c_eq (nI_toInt (n := 100) (by omega)) (nI_toInt (n := 120) (by omega))).mpr z)
      refine lv_iconst (v := nI (0)) hx hb dX9_does_22 (by decide) ?_
      refine lv_istore_n (lv' := [(1, .int (nI (0))), (0, .ref mh)]) hx hb dX9_does_23 rfl hl (by decide) rfl (fun ls hl => ?_)
      refine lv_aload_n hx hb dX9_does_24 rfl (lv_at hl 1 rfl) ?_
      refine va_get (D := gD G) (cl := vwCl) (tys := tyl G) (ci := 8) (v := .int (nI (100))) (C := RX9) (T := TX9) (N := 15) hx hb hts (by decide +kernel) hown hC.K hP 0 rfl rfl 11 (by decide) (hts (.fieldLink RX9 137 "MotionPostModel" "sign" "I") (by decide +kernel)) (fun _ h9 => h9) rfl dX9_does_25 ?_
      refine lv_bipush (v := nI (112)) hx hb dX9_does_28 (by decide) ?_
      refine lv_icmp_ne (tgt := 52) hx hb dX9_does_30 (by decide) (fun c_6 => ?_) (fun c_6 => ?_)
      · have f_7 : ¬ (100 : Int) = (112 : Int) := fun z => c_6 ((c_eq (nI_toInt (n := 100) (by omega)) (nI_toInt (n := 112) (by omega))).mpr z)
        refine lv_iload_n hx hb dX9_does_52 rfl (lv_at hl 0 rfl) ?_
        refine lv_if_eq (tgt := 72) hx hb dX9_does_53 (by decide) (fun c_8 => ?_) (fun c_8 => ?_)
        · have f_9 : (0 : Int) = (0 : Int) := (c_eq (nI_toInt (n := 0) (by omega)) rfl).mp c_8
          refine lv_aload_n hx hb dX9_does_72 rfl (lv_at hl 1 rfl) ?_
          refine va_get (D := gD G) (cl := vwCl) (tys := tyl G) (ci := 8) (v := .int (nI (100))) (C := RX9) (T := TX9) (N := 15) hx hb hts (by decide +kernel) hown hC.K hP 0 rfl rfl 11 (by decide) (hts (.fieldLink RX9 137 "MotionPostModel" "sign" "I") (by decide +kernel)) (fun _ h9 => h9) rfl dX9_does_73 ?_
          refine lv_bipush (v := nI (112)) hx hb dX9_does_76 (by decide) ?_
          refine lv_icmp_ne (tgt := 96) hx hb dX9_does_78 (by decide) (fun c_10 => ?_) (fun c_10 => ?_)
          · have f_11 : ¬ (100 : Int) = (112 : Int) := fun z => c_10 ((c_eq (nI_toInt (n := 100) (by omega)) (nI_toInt (n := 112) (by omega))).mpr z)
            refine lv_iload_n hx hb dX9_does_96 rfl (lv_at hl 0 rfl) ?_
            refine lv_if_eq (tgt := 121) hx hb dX9_does_97 (by decide) (fun c_12 => ?_) (fun c_12 => ?_)
            · have f_13 : (0 : Int) = (0 : Int) := (c_eq (nI_toInt (n := 0) (by omega)) rfl).mp c_12
              refine lv_aload_n hx hb dX9_does_121 rfl (lv_at hl 1 rfl) ?_
              refine lv_aload_n hx hb dX9_does_122 rfl (lv_at hl 1 rfl) ?_
              refine va_get (D := gD G) (cl := vwCl) (tys := tyl G) (ci := 8) (v := .int (nI (100))) (C := RX9) (T := TX9) (N := 15) hx hb hts (by decide +kernel) hown hC.K hP 0 rfl rfl 11 (by decide) (hts (.fieldLink RX9 137 "MotionPostModel" "sign" "I") (by decide +kernel)) (fun _ h9 => h9) rfl dX9_does_123 ?_
              refine lv_bipush (v := nI (117)) hx hb dX9_does_126 (by decide) ?_
              refine lv_icmp_ne (tgt := 135) hx hb dX9_does_128 (by decide) (fun c_14 => ?_) (fun c_14 => ?_)
              · have f_15 : ¬ (100 : Int) = (117 : Int) := fun z => c_14 ((c_eq (nI_toInt (n := 100) (by omega)) (nI_toInt (n := 117) (by omega))).mpr z)
                refine lv_aload_n hx hb dX9_does_135 rfl (lv_at hl 1 rfl) ?_
                refine va_get (D := gD G) (cl := vwCl) (tys := tyl G) (ci := 8) (v := .int (nI (100))) (C := RX9) (T := TX9) (N := 15) hx hb hts (by decide +kernel) hown hC.K hP 0 rfl rfl 11 (by decide) (hts (.fieldLink RX9 137 "MotionPostModel" "sign" "I") (by decide +kernel)) (fun _ h9 => h9) rfl dX9_does_136 ?_
                refine lv_bipush (v := nI (100)) hx hb dX9_does_139 (by decide) ?_
                refine lv_icmp_ne (tgt := 148) hx hb dX9_does_141 (by decide) (fun c_16 => ?_) (fun c_16 => ?_)
                · have f_17 : ¬ (100 : Int) = (100 : Int) := fun z => c_16 ((c_eq (nI_toInt (n := 100) (by omega)) (nI_toInt (n := 100) (by omega))).mpr z)
                  exfalso; omega
                · have f_18 : (100 : Int) = (100 : Int) := (c_eq (nI_toInt (n := 100) (by omega)) (nI_toInt (n := 100) (by omega))).mp c_16
                  refine lv_iconst (v := iI (-1)) hx hb dX9_does_144 (by decide) ?_
                  refine lv_goto (tgt := 149) hx hb dX9_does_145 (by decide) ?_
                  refine lv_aload_n hx hb dX9_does_149 rfl (lv_at hl 1 rfl) ?_
                  refine va_get (D := gD G) (cl := vwCl) (tys := tyl G) (ci := 8) (v := .int (nI (100))) (C := RX9) (T := TX9) (N := 15) hx hb hts (by decide +kernel) hown hC.K hP 0 rfl rfl 11 (by decide) (hts (.fieldLink RX9 137 "MotionPostModel" "sign" "I") (by decide +kernel)) (fun _ h9 => h9) rfl dX9_does_150 ?_
                  refine lv_bipush (v := nI (108)) hx hb dX9_does_153 (by decide) ?_
                  refine lv_icmp_ne (tgt := 162) hx hb dX9_does_155 (by decide) (fun c_19 => ?_) (fun c_19 => ?_)
                  · have f_20 : ¬ (100 : Int) = (108 : Int) := fun z => c_19 ((c_eq (nI_toInt (n := 100) (by omega)) (nI_toInt (n := 108) (by omega))).mpr z)
                    refine lv_aload_n hx hb dX9_does_162 rfl (lv_at hl 1 rfl) ?_
                    refine va_get (D := gD G) (cl := vwCl) (tys := tyl G) (ci := 8) (v := .int (nI (100))) (C := RX9) (T := TX9) (N := 15) hx hb hts (by decide +kernel) hown hC.K hP 0 rfl rfl 11 (by decide) (hts (.fieldLink RX9 137 "MotionPostModel" "sign" "I") (by decide +kernel)) (fun _ h9 => h9) rfl dX9_does_163 ?_
                    refine lv_bipush (v := nI (114)) hx hb dX9_does_166 (by decide) ?_
                    refine lv_icmp_ne (tgt := 175) hx hb dX9_does_168 (by decide) (fun c_21 => ?_) (fun c_21 => ?_)
                    · have f_22 : ¬ (100 : Int) = (114 : Int) := fun z => c_21 ((c_eq (nI_toInt (n := 100) (by omega)) (nI_toInt (n := 114) (by omega))).mpr z)
                      refine lv_iconst (v := nI (0)) hx hb dX9_does_175 (by decide) ?_
                      refine kMi (va_runV (As := [.int (iI (-1)), .int (nI (0))]) (rest := []) ⟨hx, hb, hml, hown, hts⟩ (c_X9_scrolls mh m1 m2 m3 m4 m5 ss hi sl tx ne th kn ke le sp wr (nI (100)) on tw dn (-1) 0 (by first | assumption | omega) (by first | assumption | omega) (by first | assumption | omega) (hP.sub [0, 1, 2, 3, 4, 5] rfl) ((hD.sub [0, 1, 2, 3, 4, 5] (by decide) rfl).weaken (fun _ _ _ h => hLo _ h))) (cwV 2 hts gX9_does_X9_scrolls rfl rfl rfl (by decide +kernel) ⟨Nat.le_of_ble_eq_true rfl, Nat.le_of_ble_eq_true rfl⟩) (preV hC hS hLo hP (ci := 8) (q0 := 0) rfl rfl) rfl rfl hl.1 rfl (lv_room (Nat.le_of_ble_eq_true rfl)) dX9_does_176 ⟨Nat.zero_le _, Nat.zero_le _⟩) hP hD hS hA [0, 1, 2, 3, 4, 5] (by decide) rfl (fun _ => rfl) (fun r_25 u_23 H locs q_24 hP hD hS => ?_)
                      have hP : PP G ([(mh, .inr (8, [.int (th), .ref m1, .ref m2, .int (nI (kn)), .ref m3, .int (nI (ke)), .ref m4, .int (nI (le)), .ref m5, .int (sp), .int (wr), .int (nI (100)), .int (on), .int (tw), .int (dn)])), (m1, .inl (cI G, 205, .inl (fun z9 => iI (((tkm ss (-1) 0 ss 64).1) z9)))), (m2, .inl (cI G, 1230, .inl (fun z9 => iI (hi z9)))), (m3, .inl (cI G, 410, .inl (fun z9 => iI (sl z9)))), (m4, .inl (cI G, 80, .inl (fun z9 => nI (tx z9)))), (m5, .inl (cI G, 128, .inl (fun z9 => iI ((neS ne ss (-1) 0 64) z9))))]) H := hP
                      have hD : va_D A ([(mh, .inr (8, [.int (th), .ref m1, .ref m2, .int (nI (kn)), .ref m3, .int (nI (ke)), .ref m4, .int (nI (le)), .ref m5, .int (sp), .int (wr), .int (nI (100)), .int (on), .int (tw), .int (dn)])), (m1, .inl (cI G, 205, .inl (fun z9 => iI (((tkm ss (-1) 0 ss 64).1) z9)))), (m2, .inl (cI G, 1230, .inl (fun z9 => iI (hi z9)))), (m3, .inl (cI G, 410, .inl (fun z9 => iI (sl z9)))), (m4, .inl (cI G, 80, .inl (fun z9 => nI (tx z9)))), (m5, .inl (cI G, 128, .inl (fun z9 => iI ((neS ne ss (-1) 0 64) z9))))]) := hD
                      refine topE (v' := nI ((tkm ss (-1) 0 ss 64).2)) (q_24) ?_
                      refine lv_istore_n (lv' := [(2, .int (nI ((tkm ss (-1) 0 ss 64).2))), (1, .int (nI (0))), (0, .ref mh)]) hx hb dX9_does_179 rfl hl (by decide) rfl (fun ls hl => ?_)
                      refine lv_iconst (v := nI (1)) hx hb dX9_does_180 (by decide) ?_
                      exact xMi (G := G) (post := (fun (r : Int32) (u : Unit) => r = nI (1))) (w1 := (fun (u : Unit) => [(mh, .inr (8, [.int (th), .ref m1, .ref m2, .int (nI (kn)), .ref m3, .int (nI (ke)), .ref m4, .int (nI (le)), .ref m5, .int (sp), .int (wr), .int (nI (100)), .int (on), .int (tw), .int (dn)])), (m1, .inl (cI G, 205, .inl (fun z9 => iI (((tkm ss (-1) (0) ss 64).1) z9)))), (m2, .inl (cI G, 1230, .inl (fun z9 => iI (hi z9)))), (m3, .inl (cI G, 410, .inl (fun z9 => iI (sl z9)))), (m4, .inl (cI G, 80, .inl (fun z9 => nI (tx z9)))), (m5, .inl (cI G, 128, .inl (fun z9 => iI ((neS ne ss (-1) (0) 64) z9))))])) (()) hx hb hr hlocks hP hS (by exact rfl) (by exact rfl) dX9_does_181
                    · have f_26 : (100 : Int) = (114 : Int) := (c_eq (nI_toInt (n := 100) (by omega)) (nI_toInt (n := 114) (by omega))).mp c_21
                      exfalso; omega
                  · have f_27 : (100 : Int) = (108 : Int) := (c_eq (nI_toInt (n := 100) (by omega)) (nI_toInt (n := 108) (by omega))).mp c_19
                    exfalso; omega
              · have f_28 : (100 : Int) = (117 : Int) := (c_eq (nI_toInt (n := 100) (by omega)) (nI_toInt (n := 117) (by omega))).mp c_14
                exfalso; omega
            · have f_29 : ¬ (0 : Int) = (0 : Int) := fun z => c_12 ((c_eq (nI_toInt (n := 0) (by omega)) rfl).mpr z)
              exfalso; omega
          · have f_30 : (100 : Int) = (112 : Int) := (c_eq (nI_toInt (n := 100) (by omega)) (nI_toInt (n := 112) (by omega))).mp c_10
            exfalso; omega
        · have f_31 : ¬ (0 : Int) = (0 : Int) := fun z => c_8 ((c_eq (nI_toInt (n := 0) (by omega)) rfl).mpr z)
          exfalso; omega
      · have f_32 : (100 : Int) = (112 : Int) := (c_eq (nI_toInt (n := 100) (by omega)) (nI_toInt (n := 112) (by omega))).mp c_6
        exfalso; omega
    · have f_33 : (100 : Int) = (120 : Int) := (c_eq (nI_toInt (n := 100) (by omega)) (nI_toInt (n := 120) (by omega))).mp c_4
      exfalso; omega

set_option maxHeartbeats 4000000 in
set_option maxRecDepth 100000 in
theorem c_X9_does_l {l : Launch} {G : GT} {H0 : Heap} (mh m1 m2 m3 m4 m5 : Nat) (ss hi sl : Nat → Int) (tx : Nat → Nat) (ne : Nat → Int) (th : Int32) (kn ke le : Nat) (sp wr on tw dn : Int32) (hMR : MR ss) (hP0 : PP G ([(mh, .inr (8, [.int (th), .ref m1, .ref m2, .int (nI (kn)), .ref m3, .int (nI (ke)), .ref m4, .int (nI (le)), .ref m5, .int (sp), .int (wr), .int (nI (108)), .int (on), .int (tw), .int (dn)])), (m1, .inl (cI G, 205, .inl (fun z9 => iI (ss z9)))), (m2, .inl (cI G, 1230, .inl (fun z9 => iI (hi z9)))), (m3, .inl (cI G, 410, .inl (fun z9 => iI (sl z9)))), (m4, .inl (cI G, 80, .inl (fun z9 => nI (tx z9)))), (m5, .inl (cI G, 128, .inl (fun z9 => iI (ne z9))))]) H0) (hB0 : va_D (lo G) ([(mh, .inr (8, [.int (th), .ref m1, .ref m2, .int (nI (kn)), .ref m3, .int (nI (ke)), .ref m4, .int (nI (le)), .ref m5, .int (sp), .int (wr), .int (nI (108)), .int (on), .int (tw), .int (dn)])), (m1, .inl (cI G, 205, .inl (fun z9 => iI (ss z9)))), (m2, .inl (cI G, 1230, .inl (fun z9 => iI (hi z9)))), (m3, .inl (cI G, 410, .inl (fun z9 => iI (sl z9)))), (m4, .inl (cI G, 80, .inl (fun z9 => nI (tx z9)))), (m5, .inl (cI G, 128, .inl (fun z9 => iI (ne z9))))])) : Met l yX9_does wsX9_does ({ frames := 10, cells := 0, slots := 0, locals := 237 } : Room) (pcG G [.ref mh] H0) (qMi G (fun (r : Int32) (u : Unit) => r = nI (1)) (fun (u : Unit) => [(mh, .inr (8, [.int (th), .ref m1, .ref m2, .int (nI (kn)), .ref m3, .int (nI (ke)), .ref m4, .int (nI (le)), .ref m5, .int (sp), .int (wr), .int (nI (108)), .int (on), .int (tw), .int (dn)])), (m1, .inl (cI G, 205, .inl (fun z9 => iI (((tkm ss (0) (1) ss 64).1) z9)))), (m2, .inl (cI G, 1230, .inl (fun z9 => iI (hi z9)))), (m3, .inl (cI G, 410, .inl (fun z9 => iI (sl z9)))), (m4, .inl (cI G, 80, .inl (fun z9 => nI (tx z9)))), (m5, .inl (cI G, 128, .inl (fun z9 => iI ((neS ne ss (0) (1) 64) z9))))]) ([(mh, .inr (8, [.int (th), .ref m1, .ref m2, .int (nI (kn)), .ref m3, .int (nI (ke)), .ref m4, .int (nI (le)), .ref m5, .int (sp), .int (wr), .int (nI (108)), .int (on), .int (tw), .int (dn)])), (m1, .inl (cI G, 205, .inl (fun z9 => iI (ss z9)))), (m2, .inl (cI G, 1230, .inl (fun z9 => iI (hi z9)))), (m3, .inl (cI G, 410, .inl (fun z9 => iI (sl z9)))), (m4, .inl (cI G, 80, .inl (fun z9 => nI (tx z9)))), (m5, .inl (cI G, 128, .inl (fun z9 => iI (ne z9))))]) H0) 0 0 (va_A ([(mh, .inr (8, [.int (th), .ref m1, .ref m2, .int (nI (kn)), .ref m3, .int (nI (ke)), .ref m4, .int (nI (le)), .ref m5, .int (sp), .int (wr), .int (nI (108)), .int (on), .int (tw), .int (dn)])), (m1, .inl (cI G, 205, .inl (fun z9 => iI (ss z9)))), (m2, .inl (cI G, 1230, .inl (fun z9 => iI (hi z9)))), (m3, .inl (cI G, 410, .inl (fun z9 => iI (sl z9)))), (m4, .inl (cI G, 80, .inl (fun z9 => nI (tx z9)))), (m5, .inl (cI G, 128, .inl (fun z9 => iI (ne z9))))]) H0.size) := by
  refine enter (cc := cX9_does) (maxL := 3) (ret := some .boolean) (own := RX9) (lv := [(0, .ref mh)]) (by decide) rfl rfl rfl (Nat.le_of_ble_eq_true rfl) ?_
  intro pg ev s m below meth c hx hb hr hts hown hlocks hml hnm hH hC ls hl
  subst hH
  have hLo := va_freeB hB0 hC.2.2.2.1
  have hD := hB0.self (sz := s.heap.size)
  have hS : va_S (va_A ([(mh, .inr (8, [.int (th), .ref m1, .ref m2, .int (nI (kn)), .ref m3, .int (nI (ke)), .ref m4, .int (nI (le)), .ref m5, .int (sp), .int (wr), .int (nI (108)), .int (on), .int (tw), .int (dn)])), (m1, .inl (cI G, 205, .inl (fun z9 => iI (ss z9)))), (m2, .inl (cI G, 1230, .inl (fun z9 => iI (hi z9)))), (m3, .inl (cI G, 410, .inl (fun z9 => iI (sl z9)))), (m4, .inl (cI G, 80, .inl (fun z9 => nI (tx z9)))), (m5, .inl (cI G, 128, .inl (fun z9 => iI (ne z9))))]) s.heap.size) s.heap s.heap [] := va_S.rf
  unfold qMi
  generalize hAe : va_A ([(mh, .inr (8, [.int (th), .ref m1, .ref m2, .int (nI (kn)), .ref m3, .int (nI (ke)), .ref m4, .int (nI (le)), .ref m5, .int (sp), .int (wr), .int (nI (108)), .int (on), .int (tw), .int (dn)])), (m1, .inl (cI G, 205, .inl (fun z9 => iI (ss z9)))), (m2, .inl (cI G, 1230, .inl (fun z9 => iI (hi z9)))), (m3, .inl (cI G, 410, .inl (fun z9 => iI (sl z9)))), (m4, .inl (cI G, 80, .inl (fun z9 => nI (tx z9)))), (m5, .inl (cI G, 128, .inl (fun z9 => iI (ne z9))))]) s.heap.size = A at hD hLo hS ⊢
  have hA : ∀ q, s.heap.size ≤ q → A q := fun q h => by rw [← hAe]; exact Or.inr h
  generalize ([] : List Loc) = locs at hS ⊢
  have hP := hP0
  refine lv_aload_n hx hb dX9_does_0 rfl (lv_at hl 0 rfl) ?_
  refine va_get (D := gD G) (cl := vwCl) (tys := tyl G) (ci := 8) (v := .int (nI (108))) (C := RX9) (T := TX9) (N := 15) hx hb hts (by decide +kernel) hown hC.K hP 0 rfl rfl 11 (by decide) (hts (.fieldLink RX9 137 "MotionPostModel" "sign" "I") (by decide +kernel)) (fun _ h9 => h9) rfl dX9_does_1 ?_
  refine lv_bipush (v := nI (115)) hx hb dX9_does_4 (by decide) ?_
  refine lv_icmp_eq (tgt := 18) hx hb dX9_does_6 (by decide) (fun c_1 => ?_) (fun c_1 => ?_)
  · have f_2 : (108 : Int) = (115 : Int) := (c_eq (nI_toInt (n := 108) (by omega)) (nI_toInt (n := 115) (by omega))).mp c_1
    exfalso; omega
  · have f_3 : ¬ (108 : Int) = (115 : Int) := fun z => c_1 ((c_eq (nI_toInt (n := 108) (by omega)) (nI_toInt (n := 115) (by omega))).mpr z)
    refine lv_aload_n hx hb dX9_does_9 rfl (lv_at hl 0 rfl) ?_
    refine va_get (D := gD G) (cl := vwCl) (tys := tyl G) (ci := 8) (v := .int (nI (108))) (C := RX9) (T := TX9) (N := 15) hx hb hts (by decide +kernel) hown hC.K hP 0 rfl rfl 11 (by decide) (hts (.fieldLink RX9 137 "MotionPostModel" "sign" "I") (by decide +kernel)) (fun _ h9 => h9) rfl dX9_does_10 ?_
    refine lv_bipush (v := nI (120)) hx hb dX9_does_13 (by decide) ?_
    refine lv_icmp_ne (tgt := 22) hx hb dX9_does_15 (by decide) (fun c_4 => ?_) (fun c_4 => ?_)
    · have f_5 : ¬ (108 : Int) = (120 : Int) := fun z => c_4 ((c_eq (nI_toInt (n := 108) (by omega)) (nI_toInt (n := 120) (by omega))).mpr z)
      refine lv_iconst (v := nI (0)) hx hb dX9_does_22 (by decide) ?_
      refine lv_istore_n (lv' := [(1, .int (nI (0))), (0, .ref mh)]) hx hb dX9_does_23 rfl hl (by decide) rfl (fun ls hl => ?_)
      refine lv_aload_n hx hb dX9_does_24 rfl (lv_at hl 1 rfl) ?_
      refine va_get (D := gD G) (cl := vwCl) (tys := tyl G) (ci := 8) (v := .int (nI (108))) (C := RX9) (T := TX9) (N := 15) hx hb hts (by decide +kernel) hown hC.K hP 0 rfl rfl 11 (by decide) (hts (.fieldLink RX9 137 "MotionPostModel" "sign" "I") (by decide +kernel)) (fun _ h9 => h9) rfl dX9_does_25 ?_
      refine lv_bipush (v := nI (112)) hx hb dX9_does_28 (by decide) ?_
      refine lv_icmp_ne (tgt := 52) hx hb dX9_does_30 (by decide) (fun c_6 => ?_) (fun c_6 => ?_)
      · have f_7 : ¬ (108 : Int) = (112 : Int) := fun z => c_6 ((c_eq (nI_toInt (n := 108) (by omega)) (nI_toInt (n := 112) (by omega))).mpr z)
        refine lv_iload_n hx hb dX9_does_52 rfl (lv_at hl 0 rfl) ?_
        refine lv_if_eq (tgt := 72) hx hb dX9_does_53 (by decide) (fun c_8 => ?_) (fun c_8 => ?_)
        · have f_9 : (0 : Int) = (0 : Int) := (c_eq (nI_toInt (n := 0) (by omega)) rfl).mp c_8
          refine lv_aload_n hx hb dX9_does_72 rfl (lv_at hl 1 rfl) ?_
          refine va_get (D := gD G) (cl := vwCl) (tys := tyl G) (ci := 8) (v := .int (nI (108))) (C := RX9) (T := TX9) (N := 15) hx hb hts (by decide +kernel) hown hC.K hP 0 rfl rfl 11 (by decide) (hts (.fieldLink RX9 137 "MotionPostModel" "sign" "I") (by decide +kernel)) (fun _ h9 => h9) rfl dX9_does_73 ?_
          refine lv_bipush (v := nI (112)) hx hb dX9_does_76 (by decide) ?_
          refine lv_icmp_ne (tgt := 96) hx hb dX9_does_78 (by decide) (fun c_10 => ?_) (fun c_10 => ?_)
          · have f_11 : ¬ (108 : Int) = (112 : Int) := fun z => c_10 ((c_eq (nI_toInt (n := 108) (by omega)) (nI_toInt (n := 112) (by omega))).mpr z)
            refine lv_iload_n hx hb dX9_does_96 rfl (lv_at hl 0 rfl) ?_
            refine lv_if_eq (tgt := 121) hx hb dX9_does_97 (by decide) (fun c_12 => ?_) (fun c_12 => ?_)
            · have f_13 : (0 : Int) = (0 : Int) := (c_eq (nI_toInt (n := 0) (by omega)) rfl).mp c_12
              refine lv_aload_n hx hb dX9_does_121 rfl (lv_at hl 1 rfl) ?_
              refine lv_aload_n hx hb dX9_does_122 rfl (lv_at hl 1 rfl) ?_
              refine va_get (D := gD G) (cl := vwCl) (tys := tyl G) (ci := 8) (v := .int (nI (108))) (C := RX9) (T := TX9) (N := 15) hx hb hts (by decide +kernel) hown hC.K hP 0 rfl rfl 11 (by decide) (hts (.fieldLink RX9 137 "MotionPostModel" "sign" "I") (by decide +kernel)) (fun _ h9 => h9) rfl dX9_does_123 ?_
              refine lv_bipush (v := nI (117)) hx hb dX9_does_126 (by decide) ?_
              refine lv_icmp_ne (tgt := 135) hx hb dX9_does_128 (by decide) (fun c_14 => ?_) (fun c_14 => ?_)
              · have f_15 : ¬ (108 : Int) = (117 : Int) := fun z => c_14 ((c_eq (nI_toInt (n := 108) (by omega)) (nI_toInt (n := 117) (by omega))).mpr z)
                refine lv_aload_n hx hb dX9_does_135 rfl (lv_at hl 1 rfl) ?_
                refine va_get (D := gD G) (cl := vwCl) (tys := tyl G) (ci := 8) (v := .int (nI (108))) (C := RX9) (T := TX9) (N := 15) hx hb hts (by decide +kernel) hown hC.K hP 0 rfl rfl 11 (by decide) (hts (.fieldLink RX9 137 "MotionPostModel" "sign" "I") (by decide +kernel)) (fun _ h9 => h9) rfl dX9_does_136 ?_
                refine lv_bipush (v := nI (100)) hx hb dX9_does_139 (by decide) ?_
                refine lv_icmp_ne (tgt := 148) hx hb dX9_does_141 (by decide) (fun c_16 => ?_) (fun c_16 => ?_)
                · have f_17 : ¬ (108 : Int) = (100 : Int) := fun z => c_16 ((c_eq (nI_toInt (n := 108) (by omega)) (nI_toInt (n := 100) (by omega))).mpr z)
                  refine lv_iconst (v := nI (0)) hx hb dX9_does_148 (by decide) ?_
                  refine lv_aload_n hx hb dX9_does_149 rfl (lv_at hl 1 rfl) ?_
                  refine va_get (D := gD G) (cl := vwCl) (tys := tyl G) (ci := 8) (v := .int (nI (108))) (C := RX9) (T := TX9) (N := 15) hx hb hts (by decide +kernel) hown hC.K hP 0 rfl rfl 11 (by decide) (hts (.fieldLink RX9 137 "MotionPostModel" "sign" "I") (by decide +kernel)) (fun _ h9 => h9) rfl dX9_does_150 ?_
                  refine lv_bipush (v := nI (108)) hx hb dX9_does_153 (by decide) ?_
                  refine lv_icmp_ne (tgt := 162) hx hb dX9_does_155 (by decide) (fun c_18 => ?_) (fun c_18 => ?_)
                  · have f_19 : ¬ (108 : Int) = (108 : Int) := fun z => c_18 ((c_eq (nI_toInt (n := 108) (by omega)) (nI_toInt (n := 108) (by omega))).mpr z)
                    exfalso; omega
                  · have f_20 : (108 : Int) = (108 : Int) := (c_eq (nI_toInt (n := 108) (by omega)) (nI_toInt (n := 108) (by omega))).mp c_18
                    refine lv_iconst (v := nI (1)) hx hb dX9_does_158 (by decide) ?_
                    refine lv_goto (tgt := 176) hx hb dX9_does_159 (by decide) ?_
                    refine kMi (va_runV (As := [.int (nI (0)), .int (nI (1))]) (rest := []) ⟨hx, hb, hml, hown, hts⟩ (c_X9_scrolls mh m1 m2 m3 m4 m5 ss hi sl tx ne th kn ke le sp wr (nI (108)) on tw dn 0 1 (by first | assumption | omega) (by first | assumption | omega) (by first | assumption | omega) (hP.sub [0, 1, 2, 3, 4, 5] rfl) ((hD.sub [0, 1, 2, 3, 4, 5] (by decide) rfl).weaken (fun _ _ _ h => hLo _ h))) (cwV 2 hts gX9_does_X9_scrolls rfl rfl rfl (by decide +kernel) ⟨Nat.le_of_ble_eq_true rfl, Nat.le_of_ble_eq_true rfl⟩) (preV hC hS hLo hP (ci := 8) (q0 := 0) rfl rfl) rfl rfl hl.1 rfl (lv_room (Nat.le_of_ble_eq_true rfl)) dX9_does_176 ⟨Nat.zero_le _, Nat.zero_le _⟩) hP hD hS hA [0, 1, 2, 3, 4, 5] (by decide) rfl (fun _ => rfl) (fun r_23 u_21 H locs q_22 hP hD hS => ?_)
                    have hP : PP G ([(mh, .inr (8, [.int (th), .ref m1, .ref m2, .int (nI (kn)), .ref m3, .int (nI (ke)), .ref m4, .int (nI (le)), .ref m5, .int (sp), .int (wr), .int (nI (108)), .int (on), .int (tw), .int (dn)])), (m1, .inl (cI G, 205, .inl (fun z9 => iI (((tkm ss 0 1 ss 64).1) z9)))), (m2, .inl (cI G, 1230, .inl (fun z9 => iI (hi z9)))), (m3, .inl (cI G, 410, .inl (fun z9 => iI (sl z9)))), (m4, .inl (cI G, 80, .inl (fun z9 => nI (tx z9)))), (m5, .inl (cI G, 128, .inl (fun z9 => iI ((neS ne ss 0 1 64) z9))))]) H := hP
                    have hD : va_D A ([(mh, .inr (8, [.int (th), .ref m1, .ref m2, .int (nI (kn)), .ref m3, .int (nI (ke)), .ref m4, .int (nI (le)), .ref m5, .int (sp), .int (wr), .int (nI (108)), .int (on), .int (tw), .int (dn)])), (m1, .inl (cI G, 205, .inl (fun z9 => iI (((tkm ss 0 1 ss 64).1) z9)))), (m2, .inl (cI G, 1230, .inl (fun z9 => iI (hi z9)))), (m3, .inl (cI G, 410, .inl (fun z9 => iI (sl z9)))), (m4, .inl (cI G, 80, .inl (fun z9 => nI (tx z9)))), (m5, .inl (cI G, 128, .inl (fun z9 => iI ((neS ne ss 0 1 64) z9))))]) := hD
                    refine topE (v' := nI ((tkm ss 0 1 ss 64).2)) (q_22) ?_
                    refine lv_istore_n (lv' := [(2, .int (nI ((tkm ss 0 1 ss 64).2))), (1, .int (nI (0))), (0, .ref mh)]) hx hb dX9_does_179 rfl hl (by decide) rfl (fun ls hl => ?_)
                    refine lv_iconst (v := nI (1)) hx hb dX9_does_180 (by decide) ?_
                    exact xMi (G := G) (post := (fun (r : Int32) (u : Unit) => r = nI (1))) (w1 := (fun (u : Unit) => [(mh, .inr (8, [.int (th), .ref m1, .ref m2, .int (nI (kn)), .ref m3, .int (nI (ke)), .ref m4, .int (nI (le)), .ref m5, .int (sp), .int (wr), .int (nI (108)), .int (on), .int (tw), .int (dn)])), (m1, .inl (cI G, 205, .inl (fun z9 => iI (((tkm ss (0) (1) ss 64).1) z9)))), (m2, .inl (cI G, 1230, .inl (fun z9 => iI (hi z9)))), (m3, .inl (cI G, 410, .inl (fun z9 => iI (sl z9)))), (m4, .inl (cI G, 80, .inl (fun z9 => nI (tx z9)))), (m5, .inl (cI G, 128, .inl (fun z9 => iI ((neS ne ss (0) (1) 64) z9))))])) (()) hx hb hr hlocks hP hS (by exact rfl) (by exact rfl) dX9_does_181
                · have f_24 : (108 : Int) = (100 : Int) := (c_eq (nI_toInt (n := 108) (by omega)) (nI_toInt (n := 100) (by omega))).mp c_16
                  exfalso; omega
              · have f_25 : (108 : Int) = (117 : Int) := (c_eq (nI_toInt (n := 108) (by omega)) (nI_toInt (n := 117) (by omega))).mp c_14
                exfalso; omega
            · have f_26 : ¬ (0 : Int) = (0 : Int) := fun z => c_12 ((c_eq (nI_toInt (n := 0) (by omega)) rfl).mpr z)
              exfalso; omega
          · have f_27 : (108 : Int) = (112 : Int) := (c_eq (nI_toInt (n := 108) (by omega)) (nI_toInt (n := 112) (by omega))).mp c_10
            exfalso; omega
        · have f_28 : ¬ (0 : Int) = (0 : Int) := fun z => c_8 ((c_eq (nI_toInt (n := 0) (by omega)) rfl).mpr z)
          exfalso; omega
      · have f_29 : (108 : Int) = (112 : Int) := (c_eq (nI_toInt (n := 108) (by omega)) (nI_toInt (n := 112) (by omega))).mp c_6
        exfalso; omega
    · have f_30 : (108 : Int) = (120 : Int) := (c_eq (nI_toInt (n := 108) (by omega)) (nI_toInt (n := 120) (by omega))).mp c_4
      exfalso; omega

set_option maxHeartbeats 4000000 in
set_option maxRecDepth 100000 in
theorem c_X9_does_r {l : Launch} {G : GT} {H0 : Heap} (mh m1 m2 m3 m4 m5 : Nat) (ss hi sl : Nat → Int) (tx : Nat → Nat) (ne : Nat → Int) (th : Int32) (kn ke le : Nat) (sp wr on tw dn : Int32) (hMR : MR ss) (hP0 : PP G ([(mh, .inr (8, [.int (th), .ref m1, .ref m2, .int (nI (kn)), .ref m3, .int (nI (ke)), .ref m4, .int (nI (le)), .ref m5, .int (sp), .int (wr), .int (nI (114)), .int (on), .int (tw), .int (dn)])), (m1, .inl (cI G, 205, .inl (fun z9 => iI (ss z9)))), (m2, .inl (cI G, 1230, .inl (fun z9 => iI (hi z9)))), (m3, .inl (cI G, 410, .inl (fun z9 => iI (sl z9)))), (m4, .inl (cI G, 80, .inl (fun z9 => nI (tx z9)))), (m5, .inl (cI G, 128, .inl (fun z9 => iI (ne z9))))]) H0) (hB0 : va_D (lo G) ([(mh, .inr (8, [.int (th), .ref m1, .ref m2, .int (nI (kn)), .ref m3, .int (nI (ke)), .ref m4, .int (nI (le)), .ref m5, .int (sp), .int (wr), .int (nI (114)), .int (on), .int (tw), .int (dn)])), (m1, .inl (cI G, 205, .inl (fun z9 => iI (ss z9)))), (m2, .inl (cI G, 1230, .inl (fun z9 => iI (hi z9)))), (m3, .inl (cI G, 410, .inl (fun z9 => iI (sl z9)))), (m4, .inl (cI G, 80, .inl (fun z9 => nI (tx z9)))), (m5, .inl (cI G, 128, .inl (fun z9 => iI (ne z9))))])) : Met l yX9_does wsX9_does ({ frames := 10, cells := 0, slots := 0, locals := 237 } : Room) (pcG G [.ref mh] H0) (qMi G (fun (r : Int32) (u : Unit) => r = nI (1)) (fun (u : Unit) => [(mh, .inr (8, [.int (th), .ref m1, .ref m2, .int (nI (kn)), .ref m3, .int (nI (ke)), .ref m4, .int (nI (le)), .ref m5, .int (sp), .int (wr), .int (nI (114)), .int (on), .int (tw), .int (dn)])), (m1, .inl (cI G, 205, .inl (fun z9 => iI (((tkm ss (0) (-1) ss 64).1) z9)))), (m2, .inl (cI G, 1230, .inl (fun z9 => iI (hi z9)))), (m3, .inl (cI G, 410, .inl (fun z9 => iI (sl z9)))), (m4, .inl (cI G, 80, .inl (fun z9 => nI (tx z9)))), (m5, .inl (cI G, 128, .inl (fun z9 => iI ((neS ne ss (0) (-1) 64) z9))))]) ([(mh, .inr (8, [.int (th), .ref m1, .ref m2, .int (nI (kn)), .ref m3, .int (nI (ke)), .ref m4, .int (nI (le)), .ref m5, .int (sp), .int (wr), .int (nI (114)), .int (on), .int (tw), .int (dn)])), (m1, .inl (cI G, 205, .inl (fun z9 => iI (ss z9)))), (m2, .inl (cI G, 1230, .inl (fun z9 => iI (hi z9)))), (m3, .inl (cI G, 410, .inl (fun z9 => iI (sl z9)))), (m4, .inl (cI G, 80, .inl (fun z9 => nI (tx z9)))), (m5, .inl (cI G, 128, .inl (fun z9 => iI (ne z9))))]) H0) 0 0 (va_A ([(mh, .inr (8, [.int (th), .ref m1, .ref m2, .int (nI (kn)), .ref m3, .int (nI (ke)), .ref m4, .int (nI (le)), .ref m5, .int (sp), .int (wr), .int (nI (114)), .int (on), .int (tw), .int (dn)])), (m1, .inl (cI G, 205, .inl (fun z9 => iI (ss z9)))), (m2, .inl (cI G, 1230, .inl (fun z9 => iI (hi z9)))), (m3, .inl (cI G, 410, .inl (fun z9 => iI (sl z9)))), (m4, .inl (cI G, 80, .inl (fun z9 => nI (tx z9)))), (m5, .inl (cI G, 128, .inl (fun z9 => iI (ne z9))))]) H0.size) := by
  refine enter (cc := cX9_does) (maxL := 3) (ret := some .boolean) (own := RX9) (lv := [(0, .ref mh)]) (by decide) rfl rfl rfl (Nat.le_of_ble_eq_true rfl) ?_
  intro pg ev s m below meth c hx hb hr hts hown hlocks hml hnm hH hC ls hl
  subst hH
  have hLo := va_freeB hB0 hC.2.2.2.1
  have hD := hB0.self (sz := s.heap.size)
  have hS : va_S (va_A ([(mh, .inr (8, [.int (th), .ref m1, .ref m2, .int (nI (kn)), .ref m3, .int (nI (ke)), .ref m4, .int (nI (le)), .ref m5, .int (sp), .int (wr), .int (nI (114)), .int (on), .int (tw), .int (dn)])), (m1, .inl (cI G, 205, .inl (fun z9 => iI (ss z9)))), (m2, .inl (cI G, 1230, .inl (fun z9 => iI (hi z9)))), (m3, .inl (cI G, 410, .inl (fun z9 => iI (sl z9)))), (m4, .inl (cI G, 80, .inl (fun z9 => nI (tx z9)))), (m5, .inl (cI G, 128, .inl (fun z9 => iI (ne z9))))]) s.heap.size) s.heap s.heap [] := va_S.rf
  unfold qMi
  generalize hAe : va_A ([(mh, .inr (8, [.int (th), .ref m1, .ref m2, .int (nI (kn)), .ref m3, .int (nI (ke)), .ref m4, .int (nI (le)), .ref m5, .int (sp), .int (wr), .int (nI (114)), .int (on), .int (tw), .int (dn)])), (m1, .inl (cI G, 205, .inl (fun z9 => iI (ss z9)))), (m2, .inl (cI G, 1230, .inl (fun z9 => iI (hi z9)))), (m3, .inl (cI G, 410, .inl (fun z9 => iI (sl z9)))), (m4, .inl (cI G, 80, .inl (fun z9 => nI (tx z9)))), (m5, .inl (cI G, 128, .inl (fun z9 => iI (ne z9))))]) s.heap.size = A at hD hLo hS ⊢
  have hA : ∀ q, s.heap.size ≤ q → A q := fun q h => by rw [← hAe]; exact Or.inr h
  generalize ([] : List Loc) = locs at hS ⊢
  have hP := hP0
  refine lv_aload_n hx hb dX9_does_0 rfl (lv_at hl 0 rfl) ?_
  refine va_get (D := gD G) (cl := vwCl) (tys := tyl G) (ci := 8) (v := .int (nI (114))) (C := RX9) (T := TX9) (N := 15) hx hb hts (by decide +kernel) hown hC.K hP 0 rfl rfl 11 (by decide) (hts (.fieldLink RX9 137 "MotionPostModel" "sign" "I") (by decide +kernel)) (fun _ h9 => h9) rfl dX9_does_1 ?_
  refine lv_bipush (v := nI (115)) hx hb dX9_does_4 (by decide) ?_
  refine lv_icmp_eq (tgt := 18) hx hb dX9_does_6 (by decide) (fun c_1 => ?_) (fun c_1 => ?_)
  · have f_2 : (114 : Int) = (115 : Int) := (c_eq (nI_toInt (n := 114) (by omega)) (nI_toInt (n := 115) (by omega))).mp c_1
    exfalso; omega
  · have f_3 : ¬ (114 : Int) = (115 : Int) := fun z => c_1 ((c_eq (nI_toInt (n := 114) (by omega)) (nI_toInt (n := 115) (by omega))).mpr z)
    refine lv_aload_n hx hb dX9_does_9 rfl (lv_at hl 0 rfl) ?_
    refine va_get (D := gD G) (cl := vwCl) (tys := tyl G) (ci := 8) (v := .int (nI (114))) (C := RX9) (T := TX9) (N := 15) hx hb hts (by decide +kernel) hown hC.K hP 0 rfl rfl 11 (by decide) (hts (.fieldLink RX9 137 "MotionPostModel" "sign" "I") (by decide +kernel)) (fun _ h9 => h9) rfl dX9_does_10 ?_
    refine lv_bipush (v := nI (120)) hx hb dX9_does_13 (by decide) ?_
    refine lv_icmp_ne (tgt := 22) hx hb dX9_does_15 (by decide) (fun c_4 => ?_) (fun c_4 => ?_)
    · have f_5 : ¬ (114 : Int) = (120 : Int) := fun z => c_4 ((c_eq (nI_toInt (n := 114) (by omega)) (nI_toInt (n := 120) (by omega))).mpr z)
      refine lv_iconst (v := nI (0)) hx hb dX9_does_22 (by decide) ?_
      refine lv_istore_n (lv' := [(1, .int (nI (0))), (0, .ref mh)]) hx hb dX9_does_23 rfl hl (by decide) rfl (fun ls hl => ?_)
      refine lv_aload_n hx hb dX9_does_24 rfl (lv_at hl 1 rfl) ?_
      refine va_get (D := gD G) (cl := vwCl) (tys := tyl G) (ci := 8) (v := .int (nI (114))) (C := RX9) (T := TX9) (N := 15) hx hb hts (by decide +kernel) hown hC.K hP 0 rfl rfl 11 (by decide) (hts (.fieldLink RX9 137 "MotionPostModel" "sign" "I") (by decide +kernel)) (fun _ h9 => h9) rfl dX9_does_25 ?_
      refine lv_bipush (v := nI (112)) hx hb dX9_does_28 (by decide) ?_
      refine lv_icmp_ne (tgt := 52) hx hb dX9_does_30 (by decide) (fun c_6 => ?_) (fun c_6 => ?_)
      · have f_7 : ¬ (114 : Int) = (112 : Int) := fun z => c_6 ((c_eq (nI_toInt (n := 114) (by omega)) (nI_toInt (n := 112) (by omega))).mpr z)
        refine lv_iload_n hx hb dX9_does_52 rfl (lv_at hl 0 rfl) ?_
        refine lv_if_eq (tgt := 72) hx hb dX9_does_53 (by decide) (fun c_8 => ?_) (fun c_8 => ?_)
        · have f_9 : (0 : Int) = (0 : Int) := (c_eq (nI_toInt (n := 0) (by omega)) rfl).mp c_8
          refine lv_aload_n hx hb dX9_does_72 rfl (lv_at hl 1 rfl) ?_
          refine va_get (D := gD G) (cl := vwCl) (tys := tyl G) (ci := 8) (v := .int (nI (114))) (C := RX9) (T := TX9) (N := 15) hx hb hts (by decide +kernel) hown hC.K hP 0 rfl rfl 11 (by decide) (hts (.fieldLink RX9 137 "MotionPostModel" "sign" "I") (by decide +kernel)) (fun _ h9 => h9) rfl dX9_does_73 ?_
          refine lv_bipush (v := nI (112)) hx hb dX9_does_76 (by decide) ?_
          refine lv_icmp_ne (tgt := 96) hx hb dX9_does_78 (by decide) (fun c_10 => ?_) (fun c_10 => ?_)
          · have f_11 : ¬ (114 : Int) = (112 : Int) := fun z => c_10 ((c_eq (nI_toInt (n := 114) (by omega)) (nI_toInt (n := 112) (by omega))).mpr z)
            refine lv_iload_n hx hb dX9_does_96 rfl (lv_at hl 0 rfl) ?_
            refine lv_if_eq (tgt := 121) hx hb dX9_does_97 (by decide) (fun c_12 => ?_) (fun c_12 => ?_)
            · have f_13 : (0 : Int) = (0 : Int) := (c_eq (nI_toInt (n := 0) (by omega)) rfl).mp c_12
              refine lv_aload_n hx hb dX9_does_121 rfl (lv_at hl 1 rfl) ?_
              refine lv_aload_n hx hb dX9_does_122 rfl (lv_at hl 1 rfl) ?_
              refine va_get (D := gD G) (cl := vwCl) (tys := tyl G) (ci := 8) (v := .int (nI (114))) (C := RX9) (T := TX9) (N := 15) hx hb hts (by decide +kernel) hown hC.K hP 0 rfl rfl 11 (by decide) (hts (.fieldLink RX9 137 "MotionPostModel" "sign" "I") (by decide +kernel)) (fun _ h9 => h9) rfl dX9_does_123 ?_
              refine lv_bipush (v := nI (117)) hx hb dX9_does_126 (by decide) ?_
              refine lv_icmp_ne (tgt := 135) hx hb dX9_does_128 (by decide) (fun c_14 => ?_) (fun c_14 => ?_)
              · have f_15 : ¬ (114 : Int) = (117 : Int) := fun z => c_14 ((c_eq (nI_toInt (n := 114) (by omega)) (nI_toInt (n := 117) (by omega))).mpr z)
                refine lv_aload_n hx hb dX9_does_135 rfl (lv_at hl 1 rfl) ?_
                refine va_get (D := gD G) (cl := vwCl) (tys := tyl G) (ci := 8) (v := .int (nI (114))) (C := RX9) (T := TX9) (N := 15) hx hb hts (by decide +kernel) hown hC.K hP 0 rfl rfl 11 (by decide) (hts (.fieldLink RX9 137 "MotionPostModel" "sign" "I") (by decide +kernel)) (fun _ h9 => h9) rfl dX9_does_136 ?_
                refine lv_bipush (v := nI (100)) hx hb dX9_does_139 (by decide) ?_
                refine lv_icmp_ne (tgt := 148) hx hb dX9_does_141 (by decide) (fun c_16 => ?_) (fun c_16 => ?_)
                · have f_17 : ¬ (114 : Int) = (100 : Int) := fun z => c_16 ((c_eq (nI_toInt (n := 114) (by omega)) (nI_toInt (n := 100) (by omega))).mpr z)
                  refine lv_iconst (v := nI (0)) hx hb dX9_does_148 (by decide) ?_
                  refine lv_aload_n hx hb dX9_does_149 rfl (lv_at hl 1 rfl) ?_
                  refine va_get (D := gD G) (cl := vwCl) (tys := tyl G) (ci := 8) (v := .int (nI (114))) (C := RX9) (T := TX9) (N := 15) hx hb hts (by decide +kernel) hown hC.K hP 0 rfl rfl 11 (by decide) (hts (.fieldLink RX9 137 "MotionPostModel" "sign" "I") (by decide +kernel)) (fun _ h9 => h9) rfl dX9_does_150 ?_
                  refine lv_bipush (v := nI (108)) hx hb dX9_does_153 (by decide) ?_
                  refine lv_icmp_ne (tgt := 162) hx hb dX9_does_155 (by decide) (fun c_18 => ?_) (fun c_18 => ?_)
                  · have f_19 : ¬ (114 : Int) = (108 : Int) := fun z => c_18 ((c_eq (nI_toInt (n := 114) (by omega)) (nI_toInt (n := 108) (by omega))).mpr z)
                    refine lv_aload_n hx hb dX9_does_162 rfl (lv_at hl 1 rfl) ?_
                    refine va_get (D := gD G) (cl := vwCl) (tys := tyl G) (ci := 8) (v := .int (nI (114))) (C := RX9) (T := TX9) (N := 15) hx hb hts (by decide +kernel) hown hC.K hP 0 rfl rfl 11 (by decide) (hts (.fieldLink RX9 137 "MotionPostModel" "sign" "I") (by decide +kernel)) (fun _ h9 => h9) rfl dX9_does_163 ?_
                    refine lv_bipush (v := nI (114)) hx hb dX9_does_166 (by decide) ?_
                    refine lv_icmp_ne (tgt := 175) hx hb dX9_does_168 (by decide) (fun c_20 => ?_) (fun c_20 => ?_)
                    · have f_21 : ¬ (114 : Int) = (114 : Int) := fun z => c_20 ((c_eq (nI_toInt (n := 114) (by omega)) (nI_toInt (n := 114) (by omega))).mpr z)
                      exfalso; omega
                    · have f_22 : (114 : Int) = (114 : Int) := (c_eq (nI_toInt (n := 114) (by omega)) (nI_toInt (n := 114) (by omega))).mp c_20
                      refine lv_iconst (v := iI (-1)) hx hb dX9_does_171 (by decide) ?_
                      refine lv_goto (tgt := 176) hx hb dX9_does_172 (by decide) ?_
                      refine kMi (va_runV (As := [.int (nI (0)), .int (iI (-1))]) (rest := []) ⟨hx, hb, hml, hown, hts⟩ (c_X9_scrolls mh m1 m2 m3 m4 m5 ss hi sl tx ne th kn ke le sp wr (nI (114)) on tw dn 0 (-1) (by first | assumption | omega) (by first | assumption | omega) (by first | assumption | omega) (hP.sub [0, 1, 2, 3, 4, 5] rfl) ((hD.sub [0, 1, 2, 3, 4, 5] (by decide) rfl).weaken (fun _ _ _ h => hLo _ h))) (cwV 2 hts gX9_does_X9_scrolls rfl rfl rfl (by decide +kernel) ⟨Nat.le_of_ble_eq_true rfl, Nat.le_of_ble_eq_true rfl⟩) (preV hC hS hLo hP (ci := 8) (q0 := 0) rfl rfl) rfl rfl hl.1 rfl (lv_room (Nat.le_of_ble_eq_true rfl)) dX9_does_176 ⟨Nat.zero_le _, Nat.zero_le _⟩) hP hD hS hA [0, 1, 2, 3, 4, 5] (by decide) rfl (fun _ => rfl) (fun r_25 u_23 H locs q_24 hP hD hS => ?_)
                      have hP : PP G ([(mh, .inr (8, [.int (th), .ref m1, .ref m2, .int (nI (kn)), .ref m3, .int (nI (ke)), .ref m4, .int (nI (le)), .ref m5, .int (sp), .int (wr), .int (nI (114)), .int (on), .int (tw), .int (dn)])), (m1, .inl (cI G, 205, .inl (fun z9 => iI (((tkm ss 0 (-1) ss 64).1) z9)))), (m2, .inl (cI G, 1230, .inl (fun z9 => iI (hi z9)))), (m3, .inl (cI G, 410, .inl (fun z9 => iI (sl z9)))), (m4, .inl (cI G, 80, .inl (fun z9 => nI (tx z9)))), (m5, .inl (cI G, 128, .inl (fun z9 => iI ((neS ne ss 0 (-1) 64) z9))))]) H := hP
                      have hD : va_D A ([(mh, .inr (8, [.int (th), .ref m1, .ref m2, .int (nI (kn)), .ref m3, .int (nI (ke)), .ref m4, .int (nI (le)), .ref m5, .int (sp), .int (wr), .int (nI (114)), .int (on), .int (tw), .int (dn)])), (m1, .inl (cI G, 205, .inl (fun z9 => iI (((tkm ss 0 (-1) ss 64).1) z9)))), (m2, .inl (cI G, 1230, .inl (fun z9 => iI (hi z9)))), (m3, .inl (cI G, 410, .inl (fun z9 => iI (sl z9)))), (m4, .inl (cI G, 80, .inl (fun z9 => nI (tx z9)))), (m5, .inl (cI G, 128, .inl (fun z9 => iI ((neS ne ss 0 (-1) 64) z9))))]) := hD
                      refine topE (v' := nI ((tkm ss 0 (-1) ss 64).2)) (q_24) ?_
                      refine lv_istore_n (lv' := [(2, .int (nI ((tkm ss 0 (-1) ss 64).2))), (1, .int (nI (0))), (0, .ref mh)]) hx hb dX9_does_179 rfl hl (by decide) rfl (fun ls hl => ?_)
                      refine lv_iconst (v := nI (1)) hx hb dX9_does_180 (by decide) ?_
                      exact xMi (G := G) (post := (fun (r : Int32) (u : Unit) => r = nI (1))) (w1 := (fun (u : Unit) => [(mh, .inr (8, [.int (th), .ref m1, .ref m2, .int (nI (kn)), .ref m3, .int (nI (ke)), .ref m4, .int (nI (le)), .ref m5, .int (sp), .int (wr), .int (nI (114)), .int (on), .int (tw), .int (dn)])), (m1, .inl (cI G, 205, .inl (fun z9 => iI (((tkm ss (0) (-1) ss 64).1) z9)))), (m2, .inl (cI G, 1230, .inl (fun z9 => iI (hi z9)))), (m3, .inl (cI G, 410, .inl (fun z9 => iI (sl z9)))), (m4, .inl (cI G, 80, .inl (fun z9 => nI (tx z9)))), (m5, .inl (cI G, 128, .inl (fun z9 => iI ((neS ne ss (0) (-1) 64) z9))))])) (()) hx hb hr hlocks hP hS (by exact rfl) (by exact rfl) dX9_does_181
                  · have f_26 : (114 : Int) = (108 : Int) := (c_eq (nI_toInt (n := 114) (by omega)) (nI_toInt (n := 108) (by omega))).mp c_18
                    exfalso; omega
                · have f_27 : (114 : Int) = (100 : Int) := (c_eq (nI_toInt (n := 114) (by omega)) (nI_toInt (n := 100) (by omega))).mp c_16
                  exfalso; omega
              · have f_28 : (114 : Int) = (117 : Int) := (c_eq (nI_toInt (n := 114) (by omega)) (nI_toInt (n := 117) (by omega))).mp c_14
                exfalso; omega
            · have f_29 : ¬ (0 : Int) = (0 : Int) := fun z => c_12 ((c_eq (nI_toInt (n := 0) (by omega)) rfl).mpr z)
              exfalso; omega
          · have f_30 : (114 : Int) = (112 : Int) := (c_eq (nI_toInt (n := 114) (by omega)) (nI_toInt (n := 112) (by omega))).mp c_10
            exfalso; omega
        · have f_31 : ¬ (0 : Int) = (0 : Int) := fun z => c_8 ((c_eq (nI_toInt (n := 0) (by omega)) rfl).mpr z)
          exfalso; omega
      · have f_32 : (114 : Int) = (112 : Int) := (c_eq (nI_toInt (n := 114) (by omega)) (nI_toInt (n := 112) (by omega))).mp c_6
        exfalso; omega
    · have f_33 : (114 : Int) = (120 : Int) := (c_eq (nI_toInt (n := 114) (by omega)) (nI_toInt (n := 120) (by omega))).mp c_4
      exfalso; omega

set_option maxHeartbeats 4000000 in
set_option maxRecDepth 100000 in
theorem c_X9_does_f0 {l : Launch} {G : GT} {H0 : Heap} (mh m1 m2 m3 m4 m5 : Nat) (ss hi sl : Nat → Int) (tx : Nat → Nat) (ne : Nat → Int) (th : Int32) (kn ke le : Nat) (sp wr on tw dn : Int32) (hMR : MR ss) (hms : ¬ ss 194 < 999) (hP0 : PP G ([(mh, .inr (8, [.int (th), .ref m1, .ref m2, .int (nI (kn)), .ref m3, .int (nI (ke)), .ref m4, .int (nI (le)), .ref m5, .int (sp), .int (wr), .int (nI (115)), .int (on), .int (tw), .int (dn)])), (m1, .inl (cI G, 205, .inl (fun z9 => iI (ss z9)))), (m2, .inl (cI G, 1230, .inl (fun z9 => iI (hi z9)))), (m3, .inl (cI G, 410, .inl (fun z9 => iI (sl z9)))), (m4, .inl (cI G, 80, .inl (fun z9 => nI (tx z9)))), (m5, .inl (cI G, 128, .inl (fun z9 => iI (ne z9))))]) H0) (hB0 : va_D (lo G) ([(mh, .inr (8, [.int (th), .ref m1, .ref m2, .int (nI (kn)), .ref m3, .int (nI (ke)), .ref m4, .int (nI (le)), .ref m5, .int (sp), .int (wr), .int (nI (115)), .int (on), .int (tw), .int (dn)])), (m1, .inl (cI G, 205, .inl (fun z9 => iI (ss z9)))), (m2, .inl (cI G, 1230, .inl (fun z9 => iI (hi z9)))), (m3, .inl (cI G, 410, .inl (fun z9 => iI (sl z9)))), (m4, .inl (cI G, 80, .inl (fun z9 => nI (tx z9)))), (m5, .inl (cI G, 128, .inl (fun z9 => iI (ne z9))))])) : Met l yX9_does wsX9_does ({ frames := 10, cells := 0, slots := 0, locals := 237 } : Room) (pcG G [.ref mh] H0) (qMi G (fun (r : Int32) (u : Unit) => r = nI (0)) (fun (u : Unit) => [(mh, .inr (8, [.int (th), .ref m1, .ref m2, .int (nI (kn)), .ref m3, .int (nI (ke)), .ref m4, .int (nI (le)), .ref m5, .int (sp), .int (wr), .int (nI (115)), .int (on), .int (tw), .int (dn)])), (m1, .inl (cI G, 205, .inl (fun z9 => iI (ss z9)))), (m2, .inl (cI G, 1230, .inl (fun z9 => iI (hi z9)))), (m3, .inl (cI G, 410, .inl (fun z9 => iI (sl z9)))), (m4, .inl (cI G, 80, .inl (fun z9 => nI (tx z9)))), (m5, .inl (cI G, 128, .inl (fun z9 => iI (ne z9))))]) ([(mh, .inr (8, [.int (th), .ref m1, .ref m2, .int (nI (kn)), .ref m3, .int (nI (ke)), .ref m4, .int (nI (le)), .ref m5, .int (sp), .int (wr), .int (nI (115)), .int (on), .int (tw), .int (dn)])), (m1, .inl (cI G, 205, .inl (fun z9 => iI (ss z9)))), (m2, .inl (cI G, 1230, .inl (fun z9 => iI (hi z9)))), (m3, .inl (cI G, 410, .inl (fun z9 => iI (sl z9)))), (m4, .inl (cI G, 80, .inl (fun z9 => nI (tx z9)))), (m5, .inl (cI G, 128, .inl (fun z9 => iI (ne z9))))]) H0) 0 0 (va_A ([(mh, .inr (8, [.int (th), .ref m1, .ref m2, .int (nI (kn)), .ref m3, .int (nI (ke)), .ref m4, .int (nI (le)), .ref m5, .int (sp), .int (wr), .int (nI (115)), .int (on), .int (tw), .int (dn)])), (m1, .inl (cI G, 205, .inl (fun z9 => iI (ss z9)))), (m2, .inl (cI G, 1230, .inl (fun z9 => iI (hi z9)))), (m3, .inl (cI G, 410, .inl (fun z9 => iI (sl z9)))), (m4, .inl (cI G, 80, .inl (fun z9 => nI (tx z9)))), (m5, .inl (cI G, 128, .inl (fun z9 => iI (ne z9))))]) H0.size) := by
  refine enter (cc := cX9_does) (maxL := 3) (ret := some .boolean) (own := RX9) (lv := [(0, .ref mh)]) (by decide) rfl rfl rfl (Nat.le_of_ble_eq_true rfl) ?_
  intro pg ev s m below meth c hx hb hr hts hown hlocks hml hnm hH hC ls hl
  subst hH
  have hLo := va_freeB hB0 hC.2.2.2.1
  have hD := hB0.self (sz := s.heap.size)
  have hS : va_S (va_A ([(mh, .inr (8, [.int (th), .ref m1, .ref m2, .int (nI (kn)), .ref m3, .int (nI (ke)), .ref m4, .int (nI (le)), .ref m5, .int (sp), .int (wr), .int (nI (115)), .int (on), .int (tw), .int (dn)])), (m1, .inl (cI G, 205, .inl (fun z9 => iI (ss z9)))), (m2, .inl (cI G, 1230, .inl (fun z9 => iI (hi z9)))), (m3, .inl (cI G, 410, .inl (fun z9 => iI (sl z9)))), (m4, .inl (cI G, 80, .inl (fun z9 => nI (tx z9)))), (m5, .inl (cI G, 128, .inl (fun z9 => iI (ne z9))))]) s.heap.size) s.heap s.heap [] := va_S.rf
  unfold qMi
  generalize hAe : va_A ([(mh, .inr (8, [.int (th), .ref m1, .ref m2, .int (nI (kn)), .ref m3, .int (nI (ke)), .ref m4, .int (nI (le)), .ref m5, .int (sp), .int (wr), .int (nI (115)), .int (on), .int (tw), .int (dn)])), (m1, .inl (cI G, 205, .inl (fun z9 => iI (ss z9)))), (m2, .inl (cI G, 1230, .inl (fun z9 => iI (hi z9)))), (m3, .inl (cI G, 410, .inl (fun z9 => iI (sl z9)))), (m4, .inl (cI G, 80, .inl (fun z9 => nI (tx z9)))), (m5, .inl (cI G, 128, .inl (fun z9 => iI (ne z9))))]) s.heap.size = A at hD hLo hS ⊢
  have hA : ∀ q, s.heap.size ≤ q → A q := fun q h => by rw [← hAe]; exact Or.inr h
  generalize ([] : List Loc) = locs at hS ⊢
  have hP := hP0
  refine lv_aload_n hx hb dX9_does_0 rfl (lv_at hl 0 rfl) ?_
  refine va_get (D := gD G) (cl := vwCl) (tys := tyl G) (ci := 8) (v := .int (nI (115))) (C := RX9) (T := TX9) (N := 15) hx hb hts (by decide +kernel) hown hC.K hP 0 rfl rfl 11 (by decide) (hts (.fieldLink RX9 137 "MotionPostModel" "sign" "I") (by decide +kernel)) (fun _ h9 => h9) rfl dX9_does_1 ?_
  refine lv_bipush (v := nI (115)) hx hb dX9_does_4 (by decide) ?_
  refine lv_icmp_eq (tgt := 18) hx hb dX9_does_6 (by decide) (fun c_1 => ?_) (fun c_1 => ?_)
  · have f_2 : (115 : Int) = (115 : Int) := (c_eq (nI_toInt (n := 115) (by omega)) (nI_toInt (n := 115) (by omega))).mp c_1
    refine lv_iconst (v := nI (1)) hx hb dX9_does_18 (by decide) ?_
    refine lv_goto (tgt := 23) hx hb dX9_does_19 (by decide) ?_
    refine lv_istore_n (lv' := [(1, .int (nI (1))), (0, .ref mh)]) hx hb dX9_does_23 rfl hl (by decide) rfl (fun ls hl => ?_)
    refine lv_aload_n hx hb dX9_does_24 rfl (lv_at hl 1 rfl) ?_
    refine va_get (D := gD G) (cl := vwCl) (tys := tyl G) (ci := 8) (v := .int (nI (115))) (C := RX9) (T := TX9) (N := 15) hx hb hts (by decide +kernel) hown hC.K hP 0 rfl rfl 11 (by decide) (hts (.fieldLink RX9 137 "MotionPostModel" "sign" "I") (by decide +kernel)) (fun _ h9 => h9) rfl dX9_does_25 ?_
    refine lv_bipush (v := nI (112)) hx hb dX9_does_28 (by decide) ?_
    refine lv_icmp_ne (tgt := 52) hx hb dX9_does_30 (by decide) (fun c_3 => ?_) (fun c_3 => ?_)
    · have f_4 : ¬ (115 : Int) = (112 : Int) := fun z => c_3 ((c_eq (nI_toInt (n := 115) (by omega)) (nI_toInt (n := 112) (by omega))).mpr z)
      refine lv_iload_n hx hb dX9_does_52 rfl (lv_at hl 0 rfl) ?_
      refine lv_if_eq (tgt := 72) hx hb dX9_does_53 (by decide) (fun c_5 => ?_) (fun c_5 => ?_)
      · have f_6 : (1 : Int) = (0 : Int) := (c_eq (nI_toInt (n := 1) (by omega)) rfl).mp c_5
        exfalso; omega
      · have f_7 : ¬ (1 : Int) = (0 : Int) := fun z => c_5 ((c_eq (nI_toInt (n := 1) (by omega)) rfl).mpr z)
        refine lv_aload_n hx hb dX9_does_56 rfl (lv_at hl 1 rfl) ?_
        refine va_get (D := gD G) (cl := vwCl) (tys := tyl G) (ci := 8) (v := .ref m1) (C := RX9) (T := TX9) (N := 15) hx hb hts (by decide +kernel) hown hC.K hP 0 rfl rfl 1 (by decide) (hts (.fieldLink RX9 7 "MotionPostModel" "s" "[I") (by decide +kernel)) (fun _ h9 => h9) rfl dX9_does_57 ?_
        refine lv_sipush (v := nI (194)) hx hb dX9_does_60 (by decide) ?_
        have hM9 := hMR.2.2.2.1
        refine gIald (j := 194) hx hb hC.K hP 1 0 rfl rfl (rfl) (by omega) (by decide) dX9_does_63 ?_
        refine lv_sipush (v := nI (999)) hx hb dX9_does_64 (by decide) ?_
        refine lv_icmp_ne (tgt := 72) hx hb dX9_does_67 (by decide) (fun c_8 => ?_) (fun c_8 => ?_)
        · have f_9 : ¬ (ss 194) = (999 : Int) := fun z => c_8 ((c_eq (iI_toInt (by omega) (by omega)) (nI_toInt (n := 999) (by omega))).mpr z)
          exfalso; omega
        · have f_10 : (ss 194) = (999 : Int) := (c_eq (iI_toInt (by omega) (by omega)) (nI_toInt (n := 999) (by omega))).mp c_8
          refine lv_iconst (v := nI (0)) hx hb dX9_does_70 (by decide) ?_
          exact xMi (G := G) (post := (fun (r : Int32) (u : Unit) => r = nI (0))) (w1 := (fun (u : Unit) => [(mh, .inr (8, [.int (th), .ref m1, .ref m2, .int (nI (kn)), .ref m3, .int (nI (ke)), .ref m4, .int (nI (le)), .ref m5, .int (sp), .int (wr), .int (nI (115)), .int (on), .int (tw), .int (dn)])), (m1, .inl (cI G, 205, .inl (fun z9 => iI (ss z9)))), (m2, .inl (cI G, 1230, .inl (fun z9 => iI (hi z9)))), (m3, .inl (cI G, 410, .inl (fun z9 => iI (sl z9)))), (m4, .inl (cI G, 80, .inl (fun z9 => nI (tx z9)))), (m5, .inl (cI G, 128, .inl (fun z9 => iI (ne z9))))])) (()) hx hb hr hlocks hP hS (by exact rfl) (by exact rfl) dX9_does_71
    · have f_11 : (115 : Int) = (112 : Int) := (c_eq (nI_toInt (n := 115) (by omega)) (nI_toInt (n := 112) (by omega))).mp c_3
      exfalso; omega
  · have f_12 : ¬ (115 : Int) = (115 : Int) := fun z => c_1 ((c_eq (nI_toInt (n := 115) (by omega)) (nI_toInt (n := 115) (by omega))).mpr z)
    exfalso; omega

set_option maxHeartbeats 4000000 in
set_option maxRecDepth 100000 in
theorem c_X9_does_sn0 {l : Launch} {G : GT} {H0 : Heap} (mh m1 m2 m3 m4 m5 : Nat) (ss hi sl : Nat → Int) (tx : Nat → Nat) (ne : Nat → Int) (th : Int32) (kn ke le : Nat) (sp wr on tw dn : Int32) (hMR : MR ss) (hkey : ¬ (ss 194).toNat % (ss 193).toNat = 0) (hms : ss 194 < 999) (hP0 : PP G ([(mh, .inr (8, [.int (th), .ref m1, .ref m2, .int (nI (kn)), .ref m3, .int (nI (ke)), .ref m4, .int (nI (le)), .ref m5, .int (sp), .int (wr), .int (nI (115)), .int (on), .int (tw), .int (dn)])), (m1, .inl (cI G, 205, .inl (fun z9 => iI (ss z9)))), (m2, .inl (cI G, 1230, .inl (fun z9 => iI (hi z9)))), (m3, .inl (cI G, 410, .inl (fun z9 => iI (sl z9)))), (m4, .inl (cI G, 80, .inl (fun z9 => nI (tx z9)))), (m5, .inl (cI G, 128, .inl (fun z9 => iI (ne z9))))]) H0) (hB0 : va_D (lo G) ([(mh, .inr (8, [.int (th), .ref m1, .ref m2, .int (nI (kn)), .ref m3, .int (nI (ke)), .ref m4, .int (nI (le)), .ref m5, .int (sp), .int (wr), .int (nI (115)), .int (on), .int (tw), .int (dn)])), (m1, .inl (cI G, 205, .inl (fun z9 => iI (ss z9)))), (m2, .inl (cI G, 1230, .inl (fun z9 => iI (hi z9)))), (m3, .inl (cI G, 410, .inl (fun z9 => iI (sl z9)))), (m4, .inl (cI G, 80, .inl (fun z9 => nI (tx z9)))), (m5, .inl (cI G, 128, .inl (fun z9 => iI (ne z9))))])) : Met l yX9_does wsX9_does ({ frames := 10, cells := 0, slots := 0, locals := 237 } : Room) (pcG G [.ref mh] H0) (qMi G (fun (r : Int32) (u : Unit) => r = nI (1)) (fun (u : Unit) => [(mh, .inr (8, [.int (th), .ref m1, .ref m2, .int (nI (kn)), .ref m3, .int (nI (ke)), .ref m4, .int (nI (le)), .ref m5, .int (sp), .int (wr), .int (nI (115)), .int (on), .int (tw), .int (dn)])), (m1, .inl (cI G, 205, .inl (fun z9 => iI ((sdR ss (nT (dS ss) (tS ss) (ss 192).toNat) (nG (dS ss) (tS ss) (rS ss) (ss 192).toNat) (knN (dS ss) (tS ss) (ss 192).toNat) (BEST (dS ss) (tS ss)) (ABM (dS ss) (tS ss) (COM (dS ss) (tS ss) (ss 192).toNat) 4) 0) z9)))), (m2, .inl (cI G, 1230, .inl (fun z9 => iI (hi z9)))), (m3, .inl (cI G, 410, .inl (fun z9 => iI (sl z9)))), (m4, .inl (cI G, 80, .inl (fun z9 => nI (tx z9)))), (m5, .inl (cI G, 128, .inl (fun z9 => iI ((nxP (nT (dS ss) (tS ss) (ss 192).toNat) (nG (dS ss) (tS ss) (rS ss) (ss 192).toNat) ne 4) z9))))]) ([(mh, .inr (8, [.int (th), .ref m1, .ref m2, .int (nI (kn)), .ref m3, .int (nI (ke)), .ref m4, .int (nI (le)), .ref m5, .int (sp), .int (wr), .int (nI (115)), .int (on), .int (tw), .int (dn)])), (m1, .inl (cI G, 205, .inl (fun z9 => iI (ss z9)))), (m2, .inl (cI G, 1230, .inl (fun z9 => iI (hi z9)))), (m3, .inl (cI G, 410, .inl (fun z9 => iI (sl z9)))), (m4, .inl (cI G, 80, .inl (fun z9 => nI (tx z9)))), (m5, .inl (cI G, 128, .inl (fun z9 => iI (ne z9))))]) H0) 0 0 (va_A ([(mh, .inr (8, [.int (th), .ref m1, .ref m2, .int (nI (kn)), .ref m3, .int (nI (ke)), .ref m4, .int (nI (le)), .ref m5, .int (sp), .int (wr), .int (nI (115)), .int (on), .int (tw), .int (dn)])), (m1, .inl (cI G, 205, .inl (fun z9 => iI (ss z9)))), (m2, .inl (cI G, 1230, .inl (fun z9 => iI (hi z9)))), (m3, .inl (cI G, 410, .inl (fun z9 => iI (sl z9)))), (m4, .inl (cI G, 80, .inl (fun z9 => nI (tx z9)))), (m5, .inl (cI G, 128, .inl (fun z9 => iI (ne z9))))]) H0.size) := by
  refine enter (cc := cX9_does) (maxL := 3) (ret := some .boolean) (own := RX9) (lv := [(0, .ref mh)]) (by decide) rfl rfl rfl (Nat.le_of_ble_eq_true rfl) ?_
  intro pg ev s m below meth c hx hb hr hts hown hlocks hml hnm hH hC ls hl
  subst hH
  have hLo := va_freeB hB0 hC.2.2.2.1
  have hD := hB0.self (sz := s.heap.size)
  have hS : va_S (va_A ([(mh, .inr (8, [.int (th), .ref m1, .ref m2, .int (nI (kn)), .ref m3, .int (nI (ke)), .ref m4, .int (nI (le)), .ref m5, .int (sp), .int (wr), .int (nI (115)), .int (on), .int (tw), .int (dn)])), (m1, .inl (cI G, 205, .inl (fun z9 => iI (ss z9)))), (m2, .inl (cI G, 1230, .inl (fun z9 => iI (hi z9)))), (m3, .inl (cI G, 410, .inl (fun z9 => iI (sl z9)))), (m4, .inl (cI G, 80, .inl (fun z9 => nI (tx z9)))), (m5, .inl (cI G, 128, .inl (fun z9 => iI (ne z9))))]) s.heap.size) s.heap s.heap [] := va_S.rf
  unfold qMi
  generalize hAe : va_A ([(mh, .inr (8, [.int (th), .ref m1, .ref m2, .int (nI (kn)), .ref m3, .int (nI (ke)), .ref m4, .int (nI (le)), .ref m5, .int (sp), .int (wr), .int (nI (115)), .int (on), .int (tw), .int (dn)])), (m1, .inl (cI G, 205, .inl (fun z9 => iI (ss z9)))), (m2, .inl (cI G, 1230, .inl (fun z9 => iI (hi z9)))), (m3, .inl (cI G, 410, .inl (fun z9 => iI (sl z9)))), (m4, .inl (cI G, 80, .inl (fun z9 => nI (tx z9)))), (m5, .inl (cI G, 128, .inl (fun z9 => iI (ne z9))))]) s.heap.size = A at hD hLo hS ⊢
  have hA : ∀ q, s.heap.size ≤ q → A q := fun q h => by rw [← hAe]; exact Or.inr h
  generalize ([] : List Loc) = locs at hS ⊢
  have hP := hP0
  refine lv_aload_n hx hb dX9_does_0 rfl (lv_at hl 0 rfl) ?_
  refine va_get (D := gD G) (cl := vwCl) (tys := tyl G) (ci := 8) (v := .int (nI (115))) (C := RX9) (T := TX9) (N := 15) hx hb hts (by decide +kernel) hown hC.K hP 0 rfl rfl 11 (by decide) (hts (.fieldLink RX9 137 "MotionPostModel" "sign" "I") (by decide +kernel)) (fun _ h9 => h9) rfl dX9_does_1 ?_
  refine lv_bipush (v := nI (115)) hx hb dX9_does_4 (by decide) ?_
  refine lv_icmp_eq (tgt := 18) hx hb dX9_does_6 (by decide) (fun c_1 => ?_) (fun c_1 => ?_)
  · have f_2 : (115 : Int) = (115 : Int) := (c_eq (nI_toInt (n := 115) (by omega)) (nI_toInt (n := 115) (by omega))).mp c_1
    refine lv_iconst (v := nI (1)) hx hb dX9_does_18 (by decide) ?_
    refine lv_goto (tgt := 23) hx hb dX9_does_19 (by decide) ?_
    refine lv_istore_n (lv' := [(1, .int (nI (1))), (0, .ref mh)]) hx hb dX9_does_23 rfl hl (by decide) rfl (fun ls hl => ?_)
    refine lv_aload_n hx hb dX9_does_24 rfl (lv_at hl 1 rfl) ?_
    refine va_get (D := gD G) (cl := vwCl) (tys := tyl G) (ci := 8) (v := .int (nI (115))) (C := RX9) (T := TX9) (N := 15) hx hb hts (by decide +kernel) hown hC.K hP 0 rfl rfl 11 (by decide) (hts (.fieldLink RX9 137 "MotionPostModel" "sign" "I") (by decide +kernel)) (fun _ h9 => h9) rfl dX9_does_25 ?_
    refine lv_bipush (v := nI (112)) hx hb dX9_does_28 (by decide) ?_
    refine lv_icmp_ne (tgt := 52) hx hb dX9_does_30 (by decide) (fun c_3 => ?_) (fun c_3 => ?_)
    · have f_4 : ¬ (115 : Int) = (112 : Int) := fun z => c_3 ((c_eq (nI_toInt (n := 115) (by omega)) (nI_toInt (n := 112) (by omega))).mpr z)
      refine lv_iload_n hx hb dX9_does_52 rfl (lv_at hl 0 rfl) ?_
      refine lv_if_eq (tgt := 72) hx hb dX9_does_53 (by decide) (fun c_5 => ?_) (fun c_5 => ?_)
      · have f_6 : (1 : Int) = (0 : Int) := (c_eq (nI_toInt (n := 1) (by omega)) rfl).mp c_5
        exfalso; omega
      · have f_7 : ¬ (1 : Int) = (0 : Int) := fun z => c_5 ((c_eq (nI_toInt (n := 1) (by omega)) rfl).mpr z)
        refine lv_aload_n hx hb dX9_does_56 rfl (lv_at hl 1 rfl) ?_
        refine va_get (D := gD G) (cl := vwCl) (tys := tyl G) (ci := 8) (v := .ref m1) (C := RX9) (T := TX9) (N := 15) hx hb hts (by decide +kernel) hown hC.K hP 0 rfl rfl 1 (by decide) (hts (.fieldLink RX9 7 "MotionPostModel" "s" "[I") (by decide +kernel)) (fun _ h9 => h9) rfl dX9_does_57 ?_
        refine lv_sipush (v := nI (194)) hx hb dX9_does_60 (by decide) ?_
        have hM9 := hMR.2.2.2.1
        refine gIald (j := 194) hx hb hC.K hP 1 0 rfl rfl (rfl) (by omega) (by decide) dX9_does_63 ?_
        refine lv_sipush (v := nI (999)) hx hb dX9_does_64 (by decide) ?_
        refine lv_icmp_ne (tgt := 72) hx hb dX9_does_67 (by decide) (fun c_8 => ?_) (fun c_8 => ?_)
        · have f_9 : ¬ (ss 194) = (999 : Int) := fun z => c_8 ((c_eq (iI_toInt (by omega) (by omega)) (nI_toInt (n := 999) (by omega))).mpr z)
          refine lv_aload_n hx hb dX9_does_72 rfl (lv_at hl 1 rfl) ?_
          refine va_get (D := gD G) (cl := vwCl) (tys := tyl G) (ci := 8) (v := .int (nI (115))) (C := RX9) (T := TX9) (N := 15) hx hb hts (by decide +kernel) hown hC.K hP 0 rfl rfl 11 (by decide) (hts (.fieldLink RX9 137 "MotionPostModel" "sign" "I") (by decide +kernel)) (fun _ h9 => h9) rfl dX9_does_73 ?_
          refine lv_bipush (v := nI (112)) hx hb dX9_does_76 (by decide) ?_
          refine lv_icmp_ne (tgt := 96) hx hb dX9_does_78 (by decide) (fun c_10 => ?_) (fun c_10 => ?_)
          · have f_11 : ¬ (115 : Int) = (112 : Int) := fun z => c_10 ((c_eq (nI_toInt (n := 115) (by omega)) (nI_toInt (n := 112) (by omega))).mpr z)
            refine lv_iload_n hx hb dX9_does_96 rfl (lv_at hl 0 rfl) ?_
            refine lv_if_eq (tgt := 121) hx hb dX9_does_97 (by decide) (fun c_12 => ?_) (fun c_12 => ?_)
            · have f_13 : (1 : Int) = (0 : Int) := (c_eq (nI_toInt (n := 1) (by omega)) rfl).mp c_12
              exfalso; omega
            · have f_14 : ¬ (1 : Int) = (0 : Int) := fun z => c_12 ((c_eq (nI_toInt (n := 1) (by omega)) rfl).mpr z)
              refine lv_aload_n hx hb dX9_does_100 rfl (lv_at hl 1 rfl) ?_
              refine lv_aload_n hx hb dX9_does_101 rfl (lv_at hl 1 rfl) ?_
              refine va_get (D := gD G) (cl := vwCl) (tys := tyl G) (ci := 8) (v := .int (nI (115))) (C := RX9) (T := TX9) (N := 15) hx hb hts (by decide +kernel) hown hC.K hP 0 rfl rfl 11 (by decide) (hts (.fieldLink RX9 137 "MotionPostModel" "sign" "I") (by decide +kernel)) (fun _ h9 => h9) rfl dX9_does_102 ?_
              refine lv_bipush (v := nI (120)) hx hb dX9_does_105 (by decide) ?_
              refine lv_icmp_ne (tgt := 114) hx hb dX9_does_107 (by decide) (fun c_15 => ?_) (fun c_15 => ?_)
              · have f_16 : ¬ (115 : Int) = (120 : Int) := fun z => c_15 ((c_eq (nI_toInt (n := 115) (by omega)) (nI_toInt (n := 120) (by omega))).mpr z)
                refine lv_iconst (v := nI (0)) hx hb dX9_does_114 (by decide) ?_
                refine kMi (va_runV (As := [.int (nI (0))]) (rest := []) ⟨hx, hb, hml, hown, hts⟩ (c_X9_sends_n0 mh m1 m2 m3 m4 m5 ss hi sl tx ne th kn ke le sp wr (nI (115)) on tw dn (by first | assumption | omega) (by first | assumption | omega) (hP.sub [0, 1, 2, 3, 4, 5] rfl) ((hD.sub [0, 1, 2, 3, 4, 5] (by decide) rfl).weaken (fun _ _ _ h => hLo _ h))) (cwV 1 hts gX9_does_X9_sends rfl rfl rfl (by decide +kernel) ⟨Nat.le_of_ble_eq_true rfl, Nat.le_of_ble_eq_true rfl⟩) (preV hC hS hLo hP (ci := 8) (q0 := 0) rfl rfl) rfl rfl hl.1 rfl (lv_room (Nat.le_of_ble_eq_true rfl)) dX9_does_115 ⟨Nat.zero_le _, Nat.zero_le _⟩) hP hD hS hA [0, 1, 2, 3, 4, 5] (by decide) rfl (fun _ => rfl) (fun r_19 u_17 H locs q_18 hP hD hS => ?_)
                have hP : PP G ([(mh, .inr (8, [.int (th), .ref m1, .ref m2, .int (nI (kn)), .ref m3, .int (nI (ke)), .ref m4, .int (nI (le)), .ref m5, .int (sp), .int (wr), .int (nI (115)), .int (on), .int (tw), .int (dn)])), (m1, .inl (cI G, 205, .inl (fun z9 => iI ((sdR ss (nT (dS ss) (tS ss) (ss 192).toNat) (nG (dS ss) (tS ss) (rS ss) (ss 192).toNat) (knN (dS ss) (tS ss) (ss 192).toNat) (BEST (dS ss) (tS ss)) (ABM (dS ss) (tS ss) (COM (dS ss) (tS ss) (ss 192).toNat) 4) 0) z9)))), (m2, .inl (cI G, 1230, .inl (fun z9 => iI (hi z9)))), (m3, .inl (cI G, 410, .inl (fun z9 => iI (sl z9)))), (m4, .inl (cI G, 80, .inl (fun z9 => nI (tx z9)))), (m5, .inl (cI G, 128, .inl (fun z9 => iI ((nxP (nT (dS ss) (tS ss) (ss 192).toNat) (nG (dS ss) (tS ss) (rS ss) (ss 192).toNat) ne 4) z9))))]) H := hP
                have hD : va_D A ([(mh, .inr (8, [.int (th), .ref m1, .ref m2, .int (nI (kn)), .ref m3, .int (nI (ke)), .ref m4, .int (nI (le)), .ref m5, .int (sp), .int (wr), .int (nI (115)), .int (on), .int (tw), .int (dn)])), (m1, .inl (cI G, 205, .inl (fun z9 => iI ((sdR ss (nT (dS ss) (tS ss) (ss 192).toNat) (nG (dS ss) (tS ss) (rS ss) (ss 192).toNat) (knN (dS ss) (tS ss) (ss 192).toNat) (BEST (dS ss) (tS ss)) (ABM (dS ss) (tS ss) (COM (dS ss) (tS ss) (ss 192).toNat) 4) 0) z9)))), (m2, .inl (cI G, 1230, .inl (fun z9 => iI (hi z9)))), (m3, .inl (cI G, 410, .inl (fun z9 => iI (sl z9)))), (m4, .inl (cI G, 80, .inl (fun z9 => nI (tx z9)))), (m5, .inl (cI G, 128, .inl (fun z9 => iI ((nxP (nT (dS ss) (tS ss) (ss 192).toNat) (nG (dS ss) (tS ss) (rS ss) (ss 192).toNat) ne 4) z9))))]) := hD
                refine topE (v' := nI (ABM (dS ss) (tS ss) (COM (dS ss) (tS ss) (ss 192).toNat) 4)) (q_18) ?_
                refine lv_goto (tgt := 179) hx hb dX9_does_118 (by decide) ?_
                refine lv_istore_n (lv' := [(2, .int (nI (ABM (dS ss) (tS ss) (COM (dS ss) (tS ss) (ss 192).toNat) 4))), (1, .int (nI (1))), (0, .ref mh)]) hx hb dX9_does_179 rfl hl (by decide) rfl (fun ls hl => ?_)
                refine lv_iconst (v := nI (1)) hx hb dX9_does_180 (by decide) ?_
                exact xMi (G := G) (post := (fun (r : Int32) (u : Unit) => r = nI (1))) (w1 := (fun (u : Unit) => [(mh, .inr (8, [.int (th), .ref m1, .ref m2, .int (nI (kn)), .ref m3, .int (nI (ke)), .ref m4, .int (nI (le)), .ref m5, .int (sp), .int (wr), .int (nI (115)), .int (on), .int (tw), .int (dn)])), (m1, .inl (cI G, 205, .inl (fun z9 => iI ((sdR ss (nT (dS ss) (tS ss) (ss 192).toNat) (nG (dS ss) (tS ss) (rS ss) (ss 192).toNat) (knN (dS ss) (tS ss) (ss 192).toNat) (BEST (dS ss) (tS ss)) (ABM (dS ss) (tS ss) (COM (dS ss) (tS ss) (ss 192).toNat) 4) 0) z9)))), (m2, .inl (cI G, 1230, .inl (fun z9 => iI (hi z9)))), (m3, .inl (cI G, 410, .inl (fun z9 => iI (sl z9)))), (m4, .inl (cI G, 80, .inl (fun z9 => nI (tx z9)))), (m5, .inl (cI G, 128, .inl (fun z9 => iI ((nxP (nT (dS ss) (tS ss) (ss 192).toNat) (nG (dS ss) (tS ss) (rS ss) (ss 192).toNat) ne 4) z9))))])) (()) hx hb hr hlocks hP hS (by exact rfl) (by exact rfl) dX9_does_181
              · have f_20 : (115 : Int) = (120 : Int) := (c_eq (nI_toInt (n := 115) (by omega)) (nI_toInt (n := 120) (by omega))).mp c_15
                exfalso; omega
          · have f_21 : (115 : Int) = (112 : Int) := (c_eq (nI_toInt (n := 115) (by omega)) (nI_toInt (n := 112) (by omega))).mp c_10
            exfalso; omega
        · have f_22 : (ss 194) = (999 : Int) := (c_eq (iI_toInt (by omega) (by omega)) (nI_toInt (n := 999) (by omega))).mp c_8
          exfalso; omega
    · have f_23 : (115 : Int) = (112 : Int) := (c_eq (nI_toInt (n := 115) (by omega)) (nI_toInt (n := 112) (by omega))).mp c_3
      exfalso; omega
  · have f_24 : ¬ (115 : Int) = (115 : Int) := fun z => c_1 ((c_eq (nI_toInt (n := 115) (by omega)) (nI_toInt (n := 115) (by omega))).mpr z)
    exfalso; omega

set_option maxHeartbeats 4000000 in
set_option maxRecDepth 100000 in
theorem c_X9_does_sk0 {l : Launch} {G : GT} {H0 : Heap} (mh m1 m2 m3 m4 m5 : Nat) (ss hi sl : Nat → Int) (tx : Nat → Nat) (ne : Nat → Int) (th : Int32) (kn ke le : Nat) (sp wr on tw dn : Int32) (hMR : MR ss) (hkey : (ss 194).toNat % (ss 193).toNat = 0) (hms : ss 194 < 999) (hP0 : PP G ([(mh, .inr (8, [.int (th), .ref m1, .ref m2, .int (nI (kn)), .ref m3, .int (nI (ke)), .ref m4, .int (nI (le)), .ref m5, .int (sp), .int (wr), .int (nI (115)), .int (on), .int (tw), .int (dn)])), (m1, .inl (cI G, 205, .inl (fun z9 => iI (ss z9)))), (m2, .inl (cI G, 1230, .inl (fun z9 => iI (hi z9)))), (m3, .inl (cI G, 410, .inl (fun z9 => iI (sl z9)))), (m4, .inl (cI G, 80, .inl (fun z9 => nI (tx z9)))), (m5, .inl (cI G, 128, .inl (fun z9 => iI (ne z9))))]) H0) (hB0 : va_D (lo G) ([(mh, .inr (8, [.int (th), .ref m1, .ref m2, .int (nI (kn)), .ref m3, .int (nI (ke)), .ref m4, .int (nI (le)), .ref m5, .int (sp), .int (wr), .int (nI (115)), .int (on), .int (tw), .int (dn)])), (m1, .inl (cI G, 205, .inl (fun z9 => iI (ss z9)))), (m2, .inl (cI G, 1230, .inl (fun z9 => iI (hi z9)))), (m3, .inl (cI G, 410, .inl (fun z9 => iI (sl z9)))), (m4, .inl (cI G, 80, .inl (fun z9 => nI (tx z9)))), (m5, .inl (cI G, 128, .inl (fun z9 => iI (ne z9))))])) : Met l yX9_does wsX9_does ({ frames := 10, cells := 0, slots := 0, locals := 237 } : Room) (pcG G [.ref mh] H0) (qMi G (fun (r : Int32) (u : Unit) => r = nI (1)) (fun (u : Unit) => [(mh, .inr (8, [.int (th), .ref m1, .ref m2, .int (nI (kn)), .ref m3, .int (nI (ke)), .ref m4, .int (nI (le)), .ref m5, .int (sp), .int (wr), .int (nI (115)), .int (on), .int (tw), .int (dn)])), (m1, .inl (cI G, 205, .inl (fun z9 => iI ((sdR ss (dS ss) (dS ss) (fun _ => 0) (BEST (dS ss) (tS ss)) (264) 0) z9)))), (m2, .inl (cI G, 1230, .inl (fun z9 => iI (hi z9)))), (m3, .inl (cI G, 410, .inl (fun z9 => iI (sl z9)))), (m4, .inl (cI G, 80, .inl (fun z9 => nI (tx z9)))), (m5, .inl (cI G, 128, .inl (fun z9 => iI ((nxP (dS ss) (dS ss) ne 4) z9))))]) ([(mh, .inr (8, [.int (th), .ref m1, .ref m2, .int (nI (kn)), .ref m3, .int (nI (ke)), .ref m4, .int (nI (le)), .ref m5, .int (sp), .int (wr), .int (nI (115)), .int (on), .int (tw), .int (dn)])), (m1, .inl (cI G, 205, .inl (fun z9 => iI (ss z9)))), (m2, .inl (cI G, 1230, .inl (fun z9 => iI (hi z9)))), (m3, .inl (cI G, 410, .inl (fun z9 => iI (sl z9)))), (m4, .inl (cI G, 80, .inl (fun z9 => nI (tx z9)))), (m5, .inl (cI G, 128, .inl (fun z9 => iI (ne z9))))]) H0) 0 0 (va_A ([(mh, .inr (8, [.int (th), .ref m1, .ref m2, .int (nI (kn)), .ref m3, .int (nI (ke)), .ref m4, .int (nI (le)), .ref m5, .int (sp), .int (wr), .int (nI (115)), .int (on), .int (tw), .int (dn)])), (m1, .inl (cI G, 205, .inl (fun z9 => iI (ss z9)))), (m2, .inl (cI G, 1230, .inl (fun z9 => iI (hi z9)))), (m3, .inl (cI G, 410, .inl (fun z9 => iI (sl z9)))), (m4, .inl (cI G, 80, .inl (fun z9 => nI (tx z9)))), (m5, .inl (cI G, 128, .inl (fun z9 => iI (ne z9))))]) H0.size) := by
  refine enter (cc := cX9_does) (maxL := 3) (ret := some .boolean) (own := RX9) (lv := [(0, .ref mh)]) (by decide) rfl rfl rfl (Nat.le_of_ble_eq_true rfl) ?_
  intro pg ev s m below meth c hx hb hr hts hown hlocks hml hnm hH hC ls hl
  subst hH
  have hLo := va_freeB hB0 hC.2.2.2.1
  have hD := hB0.self (sz := s.heap.size)
  have hS : va_S (va_A ([(mh, .inr (8, [.int (th), .ref m1, .ref m2, .int (nI (kn)), .ref m3, .int (nI (ke)), .ref m4, .int (nI (le)), .ref m5, .int (sp), .int (wr), .int (nI (115)), .int (on), .int (tw), .int (dn)])), (m1, .inl (cI G, 205, .inl (fun z9 => iI (ss z9)))), (m2, .inl (cI G, 1230, .inl (fun z9 => iI (hi z9)))), (m3, .inl (cI G, 410, .inl (fun z9 => iI (sl z9)))), (m4, .inl (cI G, 80, .inl (fun z9 => nI (tx z9)))), (m5, .inl (cI G, 128, .inl (fun z9 => iI (ne z9))))]) s.heap.size) s.heap s.heap [] := va_S.rf
  unfold qMi
  generalize hAe : va_A ([(mh, .inr (8, [.int (th), .ref m1, .ref m2, .int (nI (kn)), .ref m3, .int (nI (ke)), .ref m4, .int (nI (le)), .ref m5, .int (sp), .int (wr), .int (nI (115)), .int (on), .int (tw), .int (dn)])), (m1, .inl (cI G, 205, .inl (fun z9 => iI (ss z9)))), (m2, .inl (cI G, 1230, .inl (fun z9 => iI (hi z9)))), (m3, .inl (cI G, 410, .inl (fun z9 => iI (sl z9)))), (m4, .inl (cI G, 80, .inl (fun z9 => nI (tx z9)))), (m5, .inl (cI G, 128, .inl (fun z9 => iI (ne z9))))]) s.heap.size = A at hD hLo hS ⊢
  have hA : ∀ q, s.heap.size ≤ q → A q := fun q h => by rw [← hAe]; exact Or.inr h
  generalize ([] : List Loc) = locs at hS ⊢
  have hP := hP0
  refine lv_aload_n hx hb dX9_does_0 rfl (lv_at hl 0 rfl) ?_
  refine va_get (D := gD G) (cl := vwCl) (tys := tyl G) (ci := 8) (v := .int (nI (115))) (C := RX9) (T := TX9) (N := 15) hx hb hts (by decide +kernel) hown hC.K hP 0 rfl rfl 11 (by decide) (hts (.fieldLink RX9 137 "MotionPostModel" "sign" "I") (by decide +kernel)) (fun _ h9 => h9) rfl dX9_does_1 ?_
  refine lv_bipush (v := nI (115)) hx hb dX9_does_4 (by decide) ?_
  refine lv_icmp_eq (tgt := 18) hx hb dX9_does_6 (by decide) (fun c_1 => ?_) (fun c_1 => ?_)
  · have f_2 : (115 : Int) = (115 : Int) := (c_eq (nI_toInt (n := 115) (by omega)) (nI_toInt (n := 115) (by omega))).mp c_1
    refine lv_iconst (v := nI (1)) hx hb dX9_does_18 (by decide) ?_
    refine lv_goto (tgt := 23) hx hb dX9_does_19 (by decide) ?_
    refine lv_istore_n (lv' := [(1, .int (nI (1))), (0, .ref mh)]) hx hb dX9_does_23 rfl hl (by decide) rfl (fun ls hl => ?_)
    refine lv_aload_n hx hb dX9_does_24 rfl (lv_at hl 1 rfl) ?_
    refine va_get (D := gD G) (cl := vwCl) (tys := tyl G) (ci := 8) (v := .int (nI (115))) (C := RX9) (T := TX9) (N := 15) hx hb hts (by decide +kernel) hown hC.K hP 0 rfl rfl 11 (by decide) (hts (.fieldLink RX9 137 "MotionPostModel" "sign" "I") (by decide +kernel)) (fun _ h9 => h9) rfl dX9_does_25 ?_
    refine lv_bipush (v := nI (112)) hx hb dX9_does_28 (by decide) ?_
    refine lv_icmp_ne (tgt := 52) hx hb dX9_does_30 (by decide) (fun c_3 => ?_) (fun c_3 => ?_)
    · have f_4 : ¬ (115 : Int) = (112 : Int) := fun z => c_3 ((c_eq (nI_toInt (n := 115) (by omega)) (nI_toInt (n := 112) (by omega))).mpr z)
      refine lv_iload_n hx hb dX9_does_52 rfl (lv_at hl 0 rfl) ?_
      refine lv_if_eq (tgt := 72) hx hb dX9_does_53 (by decide) (fun c_5 => ?_) (fun c_5 => ?_)
      · have f_6 : (1 : Int) = (0 : Int) := (c_eq (nI_toInt (n := 1) (by omega)) rfl).mp c_5
        exfalso; omega
      · have f_7 : ¬ (1 : Int) = (0 : Int) := fun z => c_5 ((c_eq (nI_toInt (n := 1) (by omega)) rfl).mpr z)
        refine lv_aload_n hx hb dX9_does_56 rfl (lv_at hl 1 rfl) ?_
        refine va_get (D := gD G) (cl := vwCl) (tys := tyl G) (ci := 8) (v := .ref m1) (C := RX9) (T := TX9) (N := 15) hx hb hts (by decide +kernel) hown hC.K hP 0 rfl rfl 1 (by decide) (hts (.fieldLink RX9 7 "MotionPostModel" "s" "[I") (by decide +kernel)) (fun _ h9 => h9) rfl dX9_does_57 ?_
        refine lv_sipush (v := nI (194)) hx hb dX9_does_60 (by decide) ?_
        have hM9 := hMR.2.2.2.1
        refine gIald (j := 194) hx hb hC.K hP 1 0 rfl rfl (rfl) (by omega) (by decide) dX9_does_63 ?_
        refine lv_sipush (v := nI (999)) hx hb dX9_does_64 (by decide) ?_
        refine lv_icmp_ne (tgt := 72) hx hb dX9_does_67 (by decide) (fun c_8 => ?_) (fun c_8 => ?_)
        · have f_9 : ¬ (ss 194) = (999 : Int) := fun z => c_8 ((c_eq (iI_toInt (by omega) (by omega)) (nI_toInt (n := 999) (by omega))).mpr z)
          refine lv_aload_n hx hb dX9_does_72 rfl (lv_at hl 1 rfl) ?_
          refine va_get (D := gD G) (cl := vwCl) (tys := tyl G) (ci := 8) (v := .int (nI (115))) (C := RX9) (T := TX9) (N := 15) hx hb hts (by decide +kernel) hown hC.K hP 0 rfl rfl 11 (by decide) (hts (.fieldLink RX9 137 "MotionPostModel" "sign" "I") (by decide +kernel)) (fun _ h9 => h9) rfl dX9_does_73 ?_
          refine lv_bipush (v := nI (112)) hx hb dX9_does_76 (by decide) ?_
          refine lv_icmp_ne (tgt := 96) hx hb dX9_does_78 (by decide) (fun c_10 => ?_) (fun c_10 => ?_)
          · have f_11 : ¬ (115 : Int) = (112 : Int) := fun z => c_10 ((c_eq (nI_toInt (n := 115) (by omega)) (nI_toInt (n := 112) (by omega))).mpr z)
            refine lv_iload_n hx hb dX9_does_96 rfl (lv_at hl 0 rfl) ?_
            refine lv_if_eq (tgt := 121) hx hb dX9_does_97 (by decide) (fun c_12 => ?_) (fun c_12 => ?_)
            · have f_13 : (1 : Int) = (0 : Int) := (c_eq (nI_toInt (n := 1) (by omega)) rfl).mp c_12
              exfalso; omega
            · have f_14 : ¬ (1 : Int) = (0 : Int) := fun z => c_12 ((c_eq (nI_toInt (n := 1) (by omega)) rfl).mpr z)
              refine lv_aload_n hx hb dX9_does_100 rfl (lv_at hl 1 rfl) ?_
              refine lv_aload_n hx hb dX9_does_101 rfl (lv_at hl 1 rfl) ?_
              refine va_get (D := gD G) (cl := vwCl) (tys := tyl G) (ci := 8) (v := .int (nI (115))) (C := RX9) (T := TX9) (N := 15) hx hb hts (by decide +kernel) hown hC.K hP 0 rfl rfl 11 (by decide) (hts (.fieldLink RX9 137 "MotionPostModel" "sign" "I") (by decide +kernel)) (fun _ h9 => h9) rfl dX9_does_102 ?_
              refine lv_bipush (v := nI (120)) hx hb dX9_does_105 (by decide) ?_
              refine lv_icmp_ne (tgt := 114) hx hb dX9_does_107 (by decide) (fun c_15 => ?_) (fun c_15 => ?_)
              · have f_16 : ¬ (115 : Int) = (120 : Int) := fun z => c_15 ((c_eq (nI_toInt (n := 115) (by omega)) (nI_toInt (n := 120) (by omega))).mpr z)
                refine lv_iconst (v := nI (0)) hx hb dX9_does_114 (by decide) ?_
                refine kMi (va_runV (As := [.int (nI (0))]) (rest := []) ⟨hx, hb, hml, hown, hts⟩ (c_X9_sends_k0 mh m1 m2 m3 m4 m5 ss hi sl tx ne th kn ke le sp wr (nI (115)) on tw dn (by first | assumption | omega) (by first | assumption | omega) (hP.sub [0, 1, 2, 3, 4, 5] rfl) ((hD.sub [0, 1, 2, 3, 4, 5] (by decide) rfl).weaken (fun _ _ _ h => hLo _ h))) (cwV 1 hts gX9_does_X9_sends rfl rfl rfl (by decide +kernel) ⟨Nat.le_of_ble_eq_true rfl, Nat.le_of_ble_eq_true rfl⟩) (preV hC hS hLo hP (ci := 8) (q0 := 0) rfl rfl) rfl rfl hl.1 rfl (lv_room (Nat.le_of_ble_eq_true rfl)) dX9_does_115 ⟨Nat.zero_le _, Nat.zero_le _⟩) hP hD hS hA [0, 1, 2, 3, 4, 5] (by decide) rfl (fun _ => rfl) (fun r_19 u_17 H locs q_18 hP hD hS => ?_)
                have hP : PP G ([(mh, .inr (8, [.int (th), .ref m1, .ref m2, .int (nI (kn)), .ref m3, .int (nI (ke)), .ref m4, .int (nI (le)), .ref m5, .int (sp), .int (wr), .int (nI (115)), .int (on), .int (tw), .int (dn)])), (m1, .inl (cI G, 205, .inl (fun z9 => iI ((sdR ss (dS ss) (dS ss) (fun _ => 0) (BEST (dS ss) (tS ss)) (264) 0) z9)))), (m2, .inl (cI G, 1230, .inl (fun z9 => iI (hi z9)))), (m3, .inl (cI G, 410, .inl (fun z9 => iI (sl z9)))), (m4, .inl (cI G, 80, .inl (fun z9 => nI (tx z9)))), (m5, .inl (cI G, 128, .inl (fun z9 => iI ((nxP (dS ss) (dS ss) ne 4) z9))))]) H := hP
                have hD : va_D A ([(mh, .inr (8, [.int (th), .ref m1, .ref m2, .int (nI (kn)), .ref m3, .int (nI (ke)), .ref m4, .int (nI (le)), .ref m5, .int (sp), .int (wr), .int (nI (115)), .int (on), .int (tw), .int (dn)])), (m1, .inl (cI G, 205, .inl (fun z9 => iI ((sdR ss (dS ss) (dS ss) (fun _ => 0) (BEST (dS ss) (tS ss)) (264) 0) z9)))), (m2, .inl (cI G, 1230, .inl (fun z9 => iI (hi z9)))), (m3, .inl (cI G, 410, .inl (fun z9 => iI (sl z9)))), (m4, .inl (cI G, 80, .inl (fun z9 => nI (tx z9)))), (m5, .inl (cI G, 128, .inl (fun z9 => iI ((nxP (dS ss) (dS ss) ne 4) z9))))]) := hD
                refine topE (v' := nI (264)) (q_18) ?_
                refine lv_goto (tgt := 179) hx hb dX9_does_118 (by decide) ?_
                refine lv_istore_n (lv' := [(2, .int (nI (264))), (1, .int (nI (1))), (0, .ref mh)]) hx hb dX9_does_179 rfl hl (by decide) rfl (fun ls hl => ?_)
                refine lv_iconst (v := nI (1)) hx hb dX9_does_180 (by decide) ?_
                exact xMi (G := G) (post := (fun (r : Int32) (u : Unit) => r = nI (1))) (w1 := (fun (u : Unit) => [(mh, .inr (8, [.int (th), .ref m1, .ref m2, .int (nI (kn)), .ref m3, .int (nI (ke)), .ref m4, .int (nI (le)), .ref m5, .int (sp), .int (wr), .int (nI (115)), .int (on), .int (tw), .int (dn)])), (m1, .inl (cI G, 205, .inl (fun z9 => iI ((sdR ss (dS ss) (dS ss) (fun _ => 0) (BEST (dS ss) (tS ss)) (264) 0) z9)))), (m2, .inl (cI G, 1230, .inl (fun z9 => iI (hi z9)))), (m3, .inl (cI G, 410, .inl (fun z9 => iI (sl z9)))), (m4, .inl (cI G, 80, .inl (fun z9 => nI (tx z9)))), (m5, .inl (cI G, 128, .inl (fun z9 => iI ((nxP (dS ss) (dS ss) ne 4) z9))))])) (()) hx hb hr hlocks hP hS (by exact rfl) (by exact rfl) dX9_does_181
              · have f_20 : (115 : Int) = (120 : Int) := (c_eq (nI_toInt (n := 115) (by omega)) (nI_toInt (n := 120) (by omega))).mp c_15
                exfalso; omega
          · have f_21 : (115 : Int) = (112 : Int) := (c_eq (nI_toInt (n := 115) (by omega)) (nI_toInt (n := 112) (by omega))).mp c_10
            exfalso; omega
        · have f_22 : (ss 194) = (999 : Int) := (c_eq (iI_toInt (by omega) (by omega)) (nI_toInt (n := 999) (by omega))).mp c_8
          exfalso; omega
    · have f_23 : (115 : Int) = (112 : Int) := (c_eq (nI_toInt (n := 115) (by omega)) (nI_toInt (n := 112) (by omega))).mp c_3
      exfalso; omega
  · have f_24 : ¬ (115 : Int) = (115 : Int) := fun z => c_1 ((c_eq (nI_toInt (n := 115) (by omega)) (nI_toInt (n := 115) (by omega))).mpr z)
    exfalso; omega

set_option maxHeartbeats 4000000 in
set_option maxRecDepth 100000 in
theorem c_X9_does_f1 {l : Launch} {G : GT} {H0 : Heap} (mh m1 m2 m3 m4 m5 : Nat) (ss hi sl : Nat → Int) (tx : Nat → Nat) (ne : Nat → Int) (th : Int32) (kn ke le : Nat) (sp wr on tw dn : Int32) (hMR : MR ss) (hms : ¬ ss 194 < 999) (hP0 : PP G ([(mh, .inr (8, [.int (th), .ref m1, .ref m2, .int (nI (kn)), .ref m3, .int (nI (ke)), .ref m4, .int (nI (le)), .ref m5, .int (sp), .int (wr), .int (nI (120)), .int (on), .int (tw), .int (dn)])), (m1, .inl (cI G, 205, .inl (fun z9 => iI (ss z9)))), (m2, .inl (cI G, 1230, .inl (fun z9 => iI (hi z9)))), (m3, .inl (cI G, 410, .inl (fun z9 => iI (sl z9)))), (m4, .inl (cI G, 80, .inl (fun z9 => nI (tx z9)))), (m5, .inl (cI G, 128, .inl (fun z9 => iI (ne z9))))]) H0) (hB0 : va_D (lo G) ([(mh, .inr (8, [.int (th), .ref m1, .ref m2, .int (nI (kn)), .ref m3, .int (nI (ke)), .ref m4, .int (nI (le)), .ref m5, .int (sp), .int (wr), .int (nI (120)), .int (on), .int (tw), .int (dn)])), (m1, .inl (cI G, 205, .inl (fun z9 => iI (ss z9)))), (m2, .inl (cI G, 1230, .inl (fun z9 => iI (hi z9)))), (m3, .inl (cI G, 410, .inl (fun z9 => iI (sl z9)))), (m4, .inl (cI G, 80, .inl (fun z9 => nI (tx z9)))), (m5, .inl (cI G, 128, .inl (fun z9 => iI (ne z9))))])) : Met l yX9_does wsX9_does ({ frames := 10, cells := 0, slots := 0, locals := 237 } : Room) (pcG G [.ref mh] H0) (qMi G (fun (r : Int32) (u : Unit) => r = nI (0)) (fun (u : Unit) => [(mh, .inr (8, [.int (th), .ref m1, .ref m2, .int (nI (kn)), .ref m3, .int (nI (ke)), .ref m4, .int (nI (le)), .ref m5, .int (sp), .int (wr), .int (nI (120)), .int (on), .int (tw), .int (dn)])), (m1, .inl (cI G, 205, .inl (fun z9 => iI (ss z9)))), (m2, .inl (cI G, 1230, .inl (fun z9 => iI (hi z9)))), (m3, .inl (cI G, 410, .inl (fun z9 => iI (sl z9)))), (m4, .inl (cI G, 80, .inl (fun z9 => nI (tx z9)))), (m5, .inl (cI G, 128, .inl (fun z9 => iI (ne z9))))]) ([(mh, .inr (8, [.int (th), .ref m1, .ref m2, .int (nI (kn)), .ref m3, .int (nI (ke)), .ref m4, .int (nI (le)), .ref m5, .int (sp), .int (wr), .int (nI (120)), .int (on), .int (tw), .int (dn)])), (m1, .inl (cI G, 205, .inl (fun z9 => iI (ss z9)))), (m2, .inl (cI G, 1230, .inl (fun z9 => iI (hi z9)))), (m3, .inl (cI G, 410, .inl (fun z9 => iI (sl z9)))), (m4, .inl (cI G, 80, .inl (fun z9 => nI (tx z9)))), (m5, .inl (cI G, 128, .inl (fun z9 => iI (ne z9))))]) H0) 0 0 (va_A ([(mh, .inr (8, [.int (th), .ref m1, .ref m2, .int (nI (kn)), .ref m3, .int (nI (ke)), .ref m4, .int (nI (le)), .ref m5, .int (sp), .int (wr), .int (nI (120)), .int (on), .int (tw), .int (dn)])), (m1, .inl (cI G, 205, .inl (fun z9 => iI (ss z9)))), (m2, .inl (cI G, 1230, .inl (fun z9 => iI (hi z9)))), (m3, .inl (cI G, 410, .inl (fun z9 => iI (sl z9)))), (m4, .inl (cI G, 80, .inl (fun z9 => nI (tx z9)))), (m5, .inl (cI G, 128, .inl (fun z9 => iI (ne z9))))]) H0.size) := by
  refine enter (cc := cX9_does) (maxL := 3) (ret := some .boolean) (own := RX9) (lv := [(0, .ref mh)]) (by decide) rfl rfl rfl (Nat.le_of_ble_eq_true rfl) ?_
  intro pg ev s m below meth c hx hb hr hts hown hlocks hml hnm hH hC ls hl
  subst hH
  have hLo := va_freeB hB0 hC.2.2.2.1
  have hD := hB0.self (sz := s.heap.size)
  have hS : va_S (va_A ([(mh, .inr (8, [.int (th), .ref m1, .ref m2, .int (nI (kn)), .ref m3, .int (nI (ke)), .ref m4, .int (nI (le)), .ref m5, .int (sp), .int (wr), .int (nI (120)), .int (on), .int (tw), .int (dn)])), (m1, .inl (cI G, 205, .inl (fun z9 => iI (ss z9)))), (m2, .inl (cI G, 1230, .inl (fun z9 => iI (hi z9)))), (m3, .inl (cI G, 410, .inl (fun z9 => iI (sl z9)))), (m4, .inl (cI G, 80, .inl (fun z9 => nI (tx z9)))), (m5, .inl (cI G, 128, .inl (fun z9 => iI (ne z9))))]) s.heap.size) s.heap s.heap [] := va_S.rf
  unfold qMi
  generalize hAe : va_A ([(mh, .inr (8, [.int (th), .ref m1, .ref m2, .int (nI (kn)), .ref m3, .int (nI (ke)), .ref m4, .int (nI (le)), .ref m5, .int (sp), .int (wr), .int (nI (120)), .int (on), .int (tw), .int (dn)])), (m1, .inl (cI G, 205, .inl (fun z9 => iI (ss z9)))), (m2, .inl (cI G, 1230, .inl (fun z9 => iI (hi z9)))), (m3, .inl (cI G, 410, .inl (fun z9 => iI (sl z9)))), (m4, .inl (cI G, 80, .inl (fun z9 => nI (tx z9)))), (m5, .inl (cI G, 128, .inl (fun z9 => iI (ne z9))))]) s.heap.size = A at hD hLo hS ⊢
  have hA : ∀ q, s.heap.size ≤ q → A q := fun q h => by rw [← hAe]; exact Or.inr h
  generalize ([] : List Loc) = locs at hS ⊢
  have hP := hP0
  refine lv_aload_n hx hb dX9_does_0 rfl (lv_at hl 0 rfl) ?_
  refine va_get (D := gD G) (cl := vwCl) (tys := tyl G) (ci := 8) (v := .int (nI (120))) (C := RX9) (T := TX9) (N := 15) hx hb hts (by decide +kernel) hown hC.K hP 0 rfl rfl 11 (by decide) (hts (.fieldLink RX9 137 "MotionPostModel" "sign" "I") (by decide +kernel)) (fun _ h9 => h9) rfl dX9_does_1 ?_
  refine lv_bipush (v := nI (115)) hx hb dX9_does_4 (by decide) ?_
  refine lv_icmp_eq (tgt := 18) hx hb dX9_does_6 (by decide) (fun c_1 => ?_) (fun c_1 => ?_)
  · have f_2 : (120 : Int) = (115 : Int) := (c_eq (nI_toInt (n := 120) (by omega)) (nI_toInt (n := 115) (by omega))).mp c_1
    exfalso; omega
  · have f_3 : ¬ (120 : Int) = (115 : Int) := fun z => c_1 ((c_eq (nI_toInt (n := 120) (by omega)) (nI_toInt (n := 115) (by omega))).mpr z)
    refine lv_aload_n hx hb dX9_does_9 rfl (lv_at hl 0 rfl) ?_
    refine va_get (D := gD G) (cl := vwCl) (tys := tyl G) (ci := 8) (v := .int (nI (120))) (C := RX9) (T := TX9) (N := 15) hx hb hts (by decide +kernel) hown hC.K hP 0 rfl rfl 11 (by decide) (hts (.fieldLink RX9 137 "MotionPostModel" "sign" "I") (by decide +kernel)) (fun _ h9 => h9) rfl dX9_does_10 ?_
    refine lv_bipush (v := nI (120)) hx hb dX9_does_13 (by decide) ?_
    refine lv_icmp_ne (tgt := 22) hx hb dX9_does_15 (by decide) (fun c_4 => ?_) (fun c_4 => ?_)
    · have f_5 : ¬ (120 : Int) = (120 : Int) := fun z => c_4 ((c_eq (nI_toInt (n := 120) (by omega)) (nI_toInt (n := 120) (by omega))).mpr z)
      exfalso; omega
    · have f_6 : (120 : Int) = (120 : Int) := (c_eq (nI_toInt (n := 120) (by omega)) (nI_toInt (n := 120) (by omega))).mp c_4
      refine lv_iconst (v := nI (1)) hx hb dX9_does_18 (by decide) ?_
      refine lv_goto (tgt := 23) hx hb dX9_does_19 (by decide) ?_
      refine lv_istore_n (lv' := [(1, .int (nI (1))), (0, .ref mh)]) hx hb dX9_does_23 rfl hl (by decide) rfl (fun ls hl => ?_)
      refine lv_aload_n hx hb dX9_does_24 rfl (lv_at hl 1 rfl) ?_
      refine va_get (D := gD G) (cl := vwCl) (tys := tyl G) (ci := 8) (v := .int (nI (120))) (C := RX9) (T := TX9) (N := 15) hx hb hts (by decide +kernel) hown hC.K hP 0 rfl rfl 11 (by decide) (hts (.fieldLink RX9 137 "MotionPostModel" "sign" "I") (by decide +kernel)) (fun _ h9 => h9) rfl dX9_does_25 ?_
      refine lv_bipush (v := nI (112)) hx hb dX9_does_28 (by decide) ?_
      refine lv_icmp_ne (tgt := 52) hx hb dX9_does_30 (by decide) (fun c_7 => ?_) (fun c_7 => ?_)
      · have f_8 : ¬ (120 : Int) = (112 : Int) := fun z => c_7 ((c_eq (nI_toInt (n := 120) (by omega)) (nI_toInt (n := 112) (by omega))).mpr z)
        refine lv_iload_n hx hb dX9_does_52 rfl (lv_at hl 0 rfl) ?_
        refine lv_if_eq (tgt := 72) hx hb dX9_does_53 (by decide) (fun c_9 => ?_) (fun c_9 => ?_)
        · have f_10 : (1 : Int) = (0 : Int) := (c_eq (nI_toInt (n := 1) (by omega)) rfl).mp c_9
          exfalso; omega
        · have f_11 : ¬ (1 : Int) = (0 : Int) := fun z => c_9 ((c_eq (nI_toInt (n := 1) (by omega)) rfl).mpr z)
          refine lv_aload_n hx hb dX9_does_56 rfl (lv_at hl 1 rfl) ?_
          refine va_get (D := gD G) (cl := vwCl) (tys := tyl G) (ci := 8) (v := .ref m1) (C := RX9) (T := TX9) (N := 15) hx hb hts (by decide +kernel) hown hC.K hP 0 rfl rfl 1 (by decide) (hts (.fieldLink RX9 7 "MotionPostModel" "s" "[I") (by decide +kernel)) (fun _ h9 => h9) rfl dX9_does_57 ?_
          refine lv_sipush (v := nI (194)) hx hb dX9_does_60 (by decide) ?_
          have hM9 := hMR.2.2.2.1
          refine gIald (j := 194) hx hb hC.K hP 1 0 rfl rfl (rfl) (by omega) (by decide) dX9_does_63 ?_
          refine lv_sipush (v := nI (999)) hx hb dX9_does_64 (by decide) ?_
          refine lv_icmp_ne (tgt := 72) hx hb dX9_does_67 (by decide) (fun c_12 => ?_) (fun c_12 => ?_)
          · have f_13 : ¬ (ss 194) = (999 : Int) := fun z => c_12 ((c_eq (iI_toInt (by omega) (by omega)) (nI_toInt (n := 999) (by omega))).mpr z)
            exfalso; omega
          · have f_14 : (ss 194) = (999 : Int) := (c_eq (iI_toInt (by omega) (by omega)) (nI_toInt (n := 999) (by omega))).mp c_12
            refine lv_iconst (v := nI (0)) hx hb dX9_does_70 (by decide) ?_
            exact xMi (G := G) (post := (fun (r : Int32) (u : Unit) => r = nI (0))) (w1 := (fun (u : Unit) => [(mh, .inr (8, [.int (th), .ref m1, .ref m2, .int (nI (kn)), .ref m3, .int (nI (ke)), .ref m4, .int (nI (le)), .ref m5, .int (sp), .int (wr), .int (nI (120)), .int (on), .int (tw), .int (dn)])), (m1, .inl (cI G, 205, .inl (fun z9 => iI (ss z9)))), (m2, .inl (cI G, 1230, .inl (fun z9 => iI (hi z9)))), (m3, .inl (cI G, 410, .inl (fun z9 => iI (sl z9)))), (m4, .inl (cI G, 80, .inl (fun z9 => nI (tx z9)))), (m5, .inl (cI G, 128, .inl (fun z9 => iI (ne z9))))])) (()) hx hb hr hlocks hP hS (by exact rfl) (by exact rfl) dX9_does_71
      · have f_15 : (120 : Int) = (112 : Int) := (c_eq (nI_toInt (n := 120) (by omega)) (nI_toInt (n := 112) (by omega))).mp c_7
        exfalso; omega

set_option maxHeartbeats 4000000 in
set_option maxRecDepth 100000 in
theorem c_X9_does_sn1 {l : Launch} {G : GT} {H0 : Heap} (mh m1 m2 m3 m4 m5 : Nat) (ss hi sl : Nat → Int) (tx : Nat → Nat) (ne : Nat → Int) (th : Int32) (kn ke le : Nat) (sp wr on tw dn : Int32) (hMR : MR ss) (hkey : ¬ (ss 194).toNat % (ss 193).toNat = 0) (hms : ss 194 < 999) (hP0 : PP G ([(mh, .inr (8, [.int (th), .ref m1, .ref m2, .int (nI (kn)), .ref m3, .int (nI (ke)), .ref m4, .int (nI (le)), .ref m5, .int (sp), .int (wr), .int (nI (120)), .int (on), .int (tw), .int (dn)])), (m1, .inl (cI G, 205, .inl (fun z9 => iI (ss z9)))), (m2, .inl (cI G, 1230, .inl (fun z9 => iI (hi z9)))), (m3, .inl (cI G, 410, .inl (fun z9 => iI (sl z9)))), (m4, .inl (cI G, 80, .inl (fun z9 => nI (tx z9)))), (m5, .inl (cI G, 128, .inl (fun z9 => iI (ne z9))))]) H0) (hB0 : va_D (lo G) ([(mh, .inr (8, [.int (th), .ref m1, .ref m2, .int (nI (kn)), .ref m3, .int (nI (ke)), .ref m4, .int (nI (le)), .ref m5, .int (sp), .int (wr), .int (nI (120)), .int (on), .int (tw), .int (dn)])), (m1, .inl (cI G, 205, .inl (fun z9 => iI (ss z9)))), (m2, .inl (cI G, 1230, .inl (fun z9 => iI (hi z9)))), (m3, .inl (cI G, 410, .inl (fun z9 => iI (sl z9)))), (m4, .inl (cI G, 80, .inl (fun z9 => nI (tx z9)))), (m5, .inl (cI G, 128, .inl (fun z9 => iI (ne z9))))])) : Met l yX9_does wsX9_does ({ frames := 10, cells := 0, slots := 0, locals := 237 } : Room) (pcG G [.ref mh] H0) (qMi G (fun (r : Int32) (u : Unit) => r = nI (1)) (fun (u : Unit) => [(mh, .inr (8, [.int (th), .ref m1, .ref m2, .int (nI (kn)), .ref m3, .int (nI (ke)), .ref m4, .int (nI (le)), .ref m5, .int (sp), .int (wr), .int (nI (120)), .int (on), .int (tw), .int (dn)])), (m1, .inl (cI G, 205, .inl (fun z9 => iI ((sdR ss (nT (dS ss) (tS ss) (ss 192).toNat) (nG (dS ss) (tS ss) (rS ss) (ss 192).toNat) (knN (dS ss) (tS ss) (ss 192).toNat) (BEST (dS ss) (tS ss)) (ABM (dS ss) (tS ss) (COM (dS ss) (tS ss) (ss 192).toNat) 4) 1) z9)))), (m2, .inl (cI G, 1230, .inl (fun z9 => iI (hi z9)))), (m3, .inl (cI G, 410, .inl (fun z9 => iI (sl z9)))), (m4, .inl (cI G, 80, .inl (fun z9 => nI (tx z9)))), (m5, .inl (cI G, 128, .inl (fun z9 => iI ((nxP (nT (dS ss) (tS ss) (ss 192).toNat) (nG (dS ss) (tS ss) (rS ss) (ss 192).toNat) ne 4) z9))))]) ([(mh, .inr (8, [.int (th), .ref m1, .ref m2, .int (nI (kn)), .ref m3, .int (nI (ke)), .ref m4, .int (nI (le)), .ref m5, .int (sp), .int (wr), .int (nI (120)), .int (on), .int (tw), .int (dn)])), (m1, .inl (cI G, 205, .inl (fun z9 => iI (ss z9)))), (m2, .inl (cI G, 1230, .inl (fun z9 => iI (hi z9)))), (m3, .inl (cI G, 410, .inl (fun z9 => iI (sl z9)))), (m4, .inl (cI G, 80, .inl (fun z9 => nI (tx z9)))), (m5, .inl (cI G, 128, .inl (fun z9 => iI (ne z9))))]) H0) 0 0 (va_A ([(mh, .inr (8, [.int (th), .ref m1, .ref m2, .int (nI (kn)), .ref m3, .int (nI (ke)), .ref m4, .int (nI (le)), .ref m5, .int (sp), .int (wr), .int (nI (120)), .int (on), .int (tw), .int (dn)])), (m1, .inl (cI G, 205, .inl (fun z9 => iI (ss z9)))), (m2, .inl (cI G, 1230, .inl (fun z9 => iI (hi z9)))), (m3, .inl (cI G, 410, .inl (fun z9 => iI (sl z9)))), (m4, .inl (cI G, 80, .inl (fun z9 => nI (tx z9)))), (m5, .inl (cI G, 128, .inl (fun z9 => iI (ne z9))))]) H0.size) := by
  refine enter (cc := cX9_does) (maxL := 3) (ret := some .boolean) (own := RX9) (lv := [(0, .ref mh)]) (by decide) rfl rfl rfl (Nat.le_of_ble_eq_true rfl) ?_
  intro pg ev s m below meth c hx hb hr hts hown hlocks hml hnm hH hC ls hl
  subst hH
  have hLo := va_freeB hB0 hC.2.2.2.1
  have hD := hB0.self (sz := s.heap.size)
  have hS : va_S (va_A ([(mh, .inr (8, [.int (th), .ref m1, .ref m2, .int (nI (kn)), .ref m3, .int (nI (ke)), .ref m4, .int (nI (le)), .ref m5, .int (sp), .int (wr), .int (nI (120)), .int (on), .int (tw), .int (dn)])), (m1, .inl (cI G, 205, .inl (fun z9 => iI (ss z9)))), (m2, .inl (cI G, 1230, .inl (fun z9 => iI (hi z9)))), (m3, .inl (cI G, 410, .inl (fun z9 => iI (sl z9)))), (m4, .inl (cI G, 80, .inl (fun z9 => nI (tx z9)))), (m5, .inl (cI G, 128, .inl (fun z9 => iI (ne z9))))]) s.heap.size) s.heap s.heap [] := va_S.rf
  unfold qMi
  generalize hAe : va_A ([(mh, .inr (8, [.int (th), .ref m1, .ref m2, .int (nI (kn)), .ref m3, .int (nI (ke)), .ref m4, .int (nI (le)), .ref m5, .int (sp), .int (wr), .int (nI (120)), .int (on), .int (tw), .int (dn)])), (m1, .inl (cI G, 205, .inl (fun z9 => iI (ss z9)))), (m2, .inl (cI G, 1230, .inl (fun z9 => iI (hi z9)))), (m3, .inl (cI G, 410, .inl (fun z9 => iI (sl z9)))), (m4, .inl (cI G, 80, .inl (fun z9 => nI (tx z9)))), (m5, .inl (cI G, 128, .inl (fun z9 => iI (ne z9))))]) s.heap.size = A at hD hLo hS ⊢
  have hA : ∀ q, s.heap.size ≤ q → A q := fun q h => by rw [← hAe]; exact Or.inr h
  generalize ([] : List Loc) = locs at hS ⊢
  have hP := hP0
  refine lv_aload_n hx hb dX9_does_0 rfl (lv_at hl 0 rfl) ?_
  refine va_get (D := gD G) (cl := vwCl) (tys := tyl G) (ci := 8) (v := .int (nI (120))) (C := RX9) (T := TX9) (N := 15) hx hb hts (by decide +kernel) hown hC.K hP 0 rfl rfl 11 (by decide) (hts (.fieldLink RX9 137 "MotionPostModel" "sign" "I") (by decide +kernel)) (fun _ h9 => h9) rfl dX9_does_1 ?_
  refine lv_bipush (v := nI (115)) hx hb dX9_does_4 (by decide) ?_
  refine lv_icmp_eq (tgt := 18) hx hb dX9_does_6 (by decide) (fun c_1 => ?_) (fun c_1 => ?_)
  · have f_2 : (120 : Int) = (115 : Int) := (c_eq (nI_toInt (n := 120) (by omega)) (nI_toInt (n := 115) (by omega))).mp c_1
    exfalso; omega
  · have f_3 : ¬ (120 : Int) = (115 : Int) := fun z => c_1 ((c_eq (nI_toInt (n := 120) (by omega)) (nI_toInt (n := 115) (by omega))).mpr z)
    refine lv_aload_n hx hb dX9_does_9 rfl (lv_at hl 0 rfl) ?_
    refine va_get (D := gD G) (cl := vwCl) (tys := tyl G) (ci := 8) (v := .int (nI (120))) (C := RX9) (T := TX9) (N := 15) hx hb hts (by decide +kernel) hown hC.K hP 0 rfl rfl 11 (by decide) (hts (.fieldLink RX9 137 "MotionPostModel" "sign" "I") (by decide +kernel)) (fun _ h9 => h9) rfl dX9_does_10 ?_
    refine lv_bipush (v := nI (120)) hx hb dX9_does_13 (by decide) ?_
    refine lv_icmp_ne (tgt := 22) hx hb dX9_does_15 (by decide) (fun c_4 => ?_) (fun c_4 => ?_)
    · have f_5 : ¬ (120 : Int) = (120 : Int) := fun z => c_4 ((c_eq (nI_toInt (n := 120) (by omega)) (nI_toInt (n := 120) (by omega))).mpr z)
      exfalso; omega
    · have f_6 : (120 : Int) = (120 : Int) := (c_eq (nI_toInt (n := 120) (by omega)) (nI_toInt (n := 120) (by omega))).mp c_4
      refine lv_iconst (v := nI (1)) hx hb dX9_does_18 (by decide) ?_
      refine lv_goto (tgt := 23) hx hb dX9_does_19 (by decide) ?_
      refine lv_istore_n (lv' := [(1, .int (nI (1))), (0, .ref mh)]) hx hb dX9_does_23 rfl hl (by decide) rfl (fun ls hl => ?_)
      refine lv_aload_n hx hb dX9_does_24 rfl (lv_at hl 1 rfl) ?_
      refine va_get (D := gD G) (cl := vwCl) (tys := tyl G) (ci := 8) (v := .int (nI (120))) (C := RX9) (T := TX9) (N := 15) hx hb hts (by decide +kernel) hown hC.K hP 0 rfl rfl 11 (by decide) (hts (.fieldLink RX9 137 "MotionPostModel" "sign" "I") (by decide +kernel)) (fun _ h9 => h9) rfl dX9_does_25 ?_
      refine lv_bipush (v := nI (112)) hx hb dX9_does_28 (by decide) ?_
      refine lv_icmp_ne (tgt := 52) hx hb dX9_does_30 (by decide) (fun c_7 => ?_) (fun c_7 => ?_)
      · have f_8 : ¬ (120 : Int) = (112 : Int) := fun z => c_7 ((c_eq (nI_toInt (n := 120) (by omega)) (nI_toInt (n := 112) (by omega))).mpr z)
        refine lv_iload_n hx hb dX9_does_52 rfl (lv_at hl 0 rfl) ?_
        refine lv_if_eq (tgt := 72) hx hb dX9_does_53 (by decide) (fun c_9 => ?_) (fun c_9 => ?_)
        · have f_10 : (1 : Int) = (0 : Int) := (c_eq (nI_toInt (n := 1) (by omega)) rfl).mp c_9
          exfalso; omega
        · have f_11 : ¬ (1 : Int) = (0 : Int) := fun z => c_9 ((c_eq (nI_toInt (n := 1) (by omega)) rfl).mpr z)
          refine lv_aload_n hx hb dX9_does_56 rfl (lv_at hl 1 rfl) ?_
          refine va_get (D := gD G) (cl := vwCl) (tys := tyl G) (ci := 8) (v := .ref m1) (C := RX9) (T := TX9) (N := 15) hx hb hts (by decide +kernel) hown hC.K hP 0 rfl rfl 1 (by decide) (hts (.fieldLink RX9 7 "MotionPostModel" "s" "[I") (by decide +kernel)) (fun _ h9 => h9) rfl dX9_does_57 ?_
          refine lv_sipush (v := nI (194)) hx hb dX9_does_60 (by decide) ?_
          have hM9 := hMR.2.2.2.1
          refine gIald (j := 194) hx hb hC.K hP 1 0 rfl rfl (rfl) (by omega) (by decide) dX9_does_63 ?_
          refine lv_sipush (v := nI (999)) hx hb dX9_does_64 (by decide) ?_
          refine lv_icmp_ne (tgt := 72) hx hb dX9_does_67 (by decide) (fun c_12 => ?_) (fun c_12 => ?_)
          · have f_13 : ¬ (ss 194) = (999 : Int) := fun z => c_12 ((c_eq (iI_toInt (by omega) (by omega)) (nI_toInt (n := 999) (by omega))).mpr z)
            refine lv_aload_n hx hb dX9_does_72 rfl (lv_at hl 1 rfl) ?_
            refine va_get (D := gD G) (cl := vwCl) (tys := tyl G) (ci := 8) (v := .int (nI (120))) (C := RX9) (T := TX9) (N := 15) hx hb hts (by decide +kernel) hown hC.K hP 0 rfl rfl 11 (by decide) (hts (.fieldLink RX9 137 "MotionPostModel" "sign" "I") (by decide +kernel)) (fun _ h9 => h9) rfl dX9_does_73 ?_
            refine lv_bipush (v := nI (112)) hx hb dX9_does_76 (by decide) ?_
            refine lv_icmp_ne (tgt := 96) hx hb dX9_does_78 (by decide) (fun c_14 => ?_) (fun c_14 => ?_)
            · have f_15 : ¬ (120 : Int) = (112 : Int) := fun z => c_14 ((c_eq (nI_toInt (n := 120) (by omega)) (nI_toInt (n := 112) (by omega))).mpr z)
              refine lv_iload_n hx hb dX9_does_96 rfl (lv_at hl 0 rfl) ?_
              refine lv_if_eq (tgt := 121) hx hb dX9_does_97 (by decide) (fun c_16 => ?_) (fun c_16 => ?_)
              · have f_17 : (1 : Int) = (0 : Int) := (c_eq (nI_toInt (n := 1) (by omega)) rfl).mp c_16
                exfalso; omega
              · have f_18 : ¬ (1 : Int) = (0 : Int) := fun z => c_16 ((c_eq (nI_toInt (n := 1) (by omega)) rfl).mpr z)
                refine lv_aload_n hx hb dX9_does_100 rfl (lv_at hl 1 rfl) ?_
                refine lv_aload_n hx hb dX9_does_101 rfl (lv_at hl 1 rfl) ?_
                refine va_get (D := gD G) (cl := vwCl) (tys := tyl G) (ci := 8) (v := .int (nI (120))) (C := RX9) (T := TX9) (N := 15) hx hb hts (by decide +kernel) hown hC.K hP 0 rfl rfl 11 (by decide) (hts (.fieldLink RX9 137 "MotionPostModel" "sign" "I") (by decide +kernel)) (fun _ h9 => h9) rfl dX9_does_102 ?_
                refine lv_bipush (v := nI (120)) hx hb dX9_does_105 (by decide) ?_
                refine lv_icmp_ne (tgt := 114) hx hb dX9_does_107 (by decide) (fun c_19 => ?_) (fun c_19 => ?_)
                · have f_20 : ¬ (120 : Int) = (120 : Int) := fun z => c_19 ((c_eq (nI_toInt (n := 120) (by omega)) (nI_toInt (n := 120) (by omega))).mpr z)
                  exfalso; omega
                · have f_21 : (120 : Int) = (120 : Int) := (c_eq (nI_toInt (n := 120) (by omega)) (nI_toInt (n := 120) (by omega))).mp c_19
                  refine lv_iconst (v := nI (1)) hx hb dX9_does_110 (by decide) ?_
                  refine lv_goto (tgt := 115) hx hb dX9_does_111 (by decide) ?_
                  refine kMi (va_runV (As := [.int (nI (1))]) (rest := []) ⟨hx, hb, hml, hown, hts⟩ (c_X9_sends_n1 mh m1 m2 m3 m4 m5 ss hi sl tx ne th kn ke le sp wr (nI (120)) on tw dn (by first | assumption | omega) (by first | assumption | omega) (hP.sub [0, 1, 2, 3, 4, 5] rfl) ((hD.sub [0, 1, 2, 3, 4, 5] (by decide) rfl).weaken (fun _ _ _ h => hLo _ h))) (cwV 1 hts gX9_does_X9_sends rfl rfl rfl (by decide +kernel) ⟨Nat.le_of_ble_eq_true rfl, Nat.le_of_ble_eq_true rfl⟩) (preV hC hS hLo hP (ci := 8) (q0 := 0) rfl rfl) rfl rfl hl.1 rfl (lv_room (Nat.le_of_ble_eq_true rfl)) dX9_does_115 ⟨Nat.zero_le _, Nat.zero_le _⟩) hP hD hS hA [0, 1, 2, 3, 4, 5] (by decide) rfl (fun _ => rfl) (fun r_24 u_22 H locs q_23 hP hD hS => ?_)
                  have hP : PP G ([(mh, .inr (8, [.int (th), .ref m1, .ref m2, .int (nI (kn)), .ref m3, .int (nI (ke)), .ref m4, .int (nI (le)), .ref m5, .int (sp), .int (wr), .int (nI (120)), .int (on), .int (tw), .int (dn)])), (m1, .inl (cI G, 205, .inl (fun z9 => iI ((sdR ss (nT (dS ss) (tS ss) (ss 192).toNat) (nG (dS ss) (tS ss) (rS ss) (ss 192).toNat) (knN (dS ss) (tS ss) (ss 192).toNat) (BEST (dS ss) (tS ss)) (ABM (dS ss) (tS ss) (COM (dS ss) (tS ss) (ss 192).toNat) 4) 1) z9)))), (m2, .inl (cI G, 1230, .inl (fun z9 => iI (hi z9)))), (m3, .inl (cI G, 410, .inl (fun z9 => iI (sl z9)))), (m4, .inl (cI G, 80, .inl (fun z9 => nI (tx z9)))), (m5, .inl (cI G, 128, .inl (fun z9 => iI ((nxP (nT (dS ss) (tS ss) (ss 192).toNat) (nG (dS ss) (tS ss) (rS ss) (ss 192).toNat) ne 4) z9))))]) H := hP
                  have hD : va_D A ([(mh, .inr (8, [.int (th), .ref m1, .ref m2, .int (nI (kn)), .ref m3, .int (nI (ke)), .ref m4, .int (nI (le)), .ref m5, .int (sp), .int (wr), .int (nI (120)), .int (on), .int (tw), .int (dn)])), (m1, .inl (cI G, 205, .inl (fun z9 => iI ((sdR ss (nT (dS ss) (tS ss) (ss 192).toNat) (nG (dS ss) (tS ss) (rS ss) (ss 192).toNat) (knN (dS ss) (tS ss) (ss 192).toNat) (BEST (dS ss) (tS ss)) (ABM (dS ss) (tS ss) (COM (dS ss) (tS ss) (ss 192).toNat) 4) 1) z9)))), (m2, .inl (cI G, 1230, .inl (fun z9 => iI (hi z9)))), (m3, .inl (cI G, 410, .inl (fun z9 => iI (sl z9)))), (m4, .inl (cI G, 80, .inl (fun z9 => nI (tx z9)))), (m5, .inl (cI G, 128, .inl (fun z9 => iI ((nxP (nT (dS ss) (tS ss) (ss 192).toNat) (nG (dS ss) (tS ss) (rS ss) (ss 192).toNat) ne 4) z9))))]) := hD
                  refine topE (v' := nI (ABM (dS ss) (tS ss) (COM (dS ss) (tS ss) (ss 192).toNat) 4)) (q_23) ?_
                  refine lv_goto (tgt := 179) hx hb dX9_does_118 (by decide) ?_
                  refine lv_istore_n (lv' := [(2, .int (nI (ABM (dS ss) (tS ss) (COM (dS ss) (tS ss) (ss 192).toNat) 4))), (1, .int (nI (1))), (0, .ref mh)]) hx hb dX9_does_179 rfl hl (by decide) rfl (fun ls hl => ?_)
                  refine lv_iconst (v := nI (1)) hx hb dX9_does_180 (by decide) ?_
                  exact xMi (G := G) (post := (fun (r : Int32) (u : Unit) => r = nI (1))) (w1 := (fun (u : Unit) => [(mh, .inr (8, [.int (th), .ref m1, .ref m2, .int (nI (kn)), .ref m3, .int (nI (ke)), .ref m4, .int (nI (le)), .ref m5, .int (sp), .int (wr), .int (nI (120)), .int (on), .int (tw), .int (dn)])), (m1, .inl (cI G, 205, .inl (fun z9 => iI ((sdR ss (nT (dS ss) (tS ss) (ss 192).toNat) (nG (dS ss) (tS ss) (rS ss) (ss 192).toNat) (knN (dS ss) (tS ss) (ss 192).toNat) (BEST (dS ss) (tS ss)) (ABM (dS ss) (tS ss) (COM (dS ss) (tS ss) (ss 192).toNat) 4) 1) z9)))), (m2, .inl (cI G, 1230, .inl (fun z9 => iI (hi z9)))), (m3, .inl (cI G, 410, .inl (fun z9 => iI (sl z9)))), (m4, .inl (cI G, 80, .inl (fun z9 => nI (tx z9)))), (m5, .inl (cI G, 128, .inl (fun z9 => iI ((nxP (nT (dS ss) (tS ss) (ss 192).toNat) (nG (dS ss) (tS ss) (rS ss) (ss 192).toNat) ne 4) z9))))])) (()) hx hb hr hlocks hP hS (by exact rfl) (by exact rfl) dX9_does_181
            · have f_25 : (120 : Int) = (112 : Int) := (c_eq (nI_toInt (n := 120) (by omega)) (nI_toInt (n := 112) (by omega))).mp c_14
              exfalso; omega
          · have f_26 : (ss 194) = (999 : Int) := (c_eq (iI_toInt (by omega) (by omega)) (nI_toInt (n := 999) (by omega))).mp c_12
            exfalso; omega
      · have f_27 : (120 : Int) = (112 : Int) := (c_eq (nI_toInt (n := 120) (by omega)) (nI_toInt (n := 112) (by omega))).mp c_7
        exfalso; omega

set_option maxHeartbeats 4000000 in
set_option maxRecDepth 100000 in
theorem c_X9_does_sk1 {l : Launch} {G : GT} {H0 : Heap} (mh m1 m2 m3 m4 m5 : Nat) (ss hi sl : Nat → Int) (tx : Nat → Nat) (ne : Nat → Int) (th : Int32) (kn ke le : Nat) (sp wr on tw dn : Int32) (hMR : MR ss) (hkey : (ss 194).toNat % (ss 193).toNat = 0) (hms : ss 194 < 999) (hP0 : PP G ([(mh, .inr (8, [.int (th), .ref m1, .ref m2, .int (nI (kn)), .ref m3, .int (nI (ke)), .ref m4, .int (nI (le)), .ref m5, .int (sp), .int (wr), .int (nI (120)), .int (on), .int (tw), .int (dn)])), (m1, .inl (cI G, 205, .inl (fun z9 => iI (ss z9)))), (m2, .inl (cI G, 1230, .inl (fun z9 => iI (hi z9)))), (m3, .inl (cI G, 410, .inl (fun z9 => iI (sl z9)))), (m4, .inl (cI G, 80, .inl (fun z9 => nI (tx z9)))), (m5, .inl (cI G, 128, .inl (fun z9 => iI (ne z9))))]) H0) (hB0 : va_D (lo G) ([(mh, .inr (8, [.int (th), .ref m1, .ref m2, .int (nI (kn)), .ref m3, .int (nI (ke)), .ref m4, .int (nI (le)), .ref m5, .int (sp), .int (wr), .int (nI (120)), .int (on), .int (tw), .int (dn)])), (m1, .inl (cI G, 205, .inl (fun z9 => iI (ss z9)))), (m2, .inl (cI G, 1230, .inl (fun z9 => iI (hi z9)))), (m3, .inl (cI G, 410, .inl (fun z9 => iI (sl z9)))), (m4, .inl (cI G, 80, .inl (fun z9 => nI (tx z9)))), (m5, .inl (cI G, 128, .inl (fun z9 => iI (ne z9))))])) : Met l yX9_does wsX9_does ({ frames := 10, cells := 0, slots := 0, locals := 237 } : Room) (pcG G [.ref mh] H0) (qMi G (fun (r : Int32) (u : Unit) => r = nI (1)) (fun (u : Unit) => [(mh, .inr (8, [.int (th), .ref m1, .ref m2, .int (nI (kn)), .ref m3, .int (nI (ke)), .ref m4, .int (nI (le)), .ref m5, .int (sp), .int (wr), .int (nI (120)), .int (on), .int (tw), .int (dn)])), (m1, .inl (cI G, 205, .inl (fun z9 => iI ((sdR ss (dS ss) (dS ss) (fun _ => 0) (BEST (dS ss) (tS ss)) (264) 1) z9)))), (m2, .inl (cI G, 1230, .inl (fun z9 => iI (hi z9)))), (m3, .inl (cI G, 410, .inl (fun z9 => iI (sl z9)))), (m4, .inl (cI G, 80, .inl (fun z9 => nI (tx z9)))), (m5, .inl (cI G, 128, .inl (fun z9 => iI ((nxP (dS ss) (dS ss) ne 4) z9))))]) ([(mh, .inr (8, [.int (th), .ref m1, .ref m2, .int (nI (kn)), .ref m3, .int (nI (ke)), .ref m4, .int (nI (le)), .ref m5, .int (sp), .int (wr), .int (nI (120)), .int (on), .int (tw), .int (dn)])), (m1, .inl (cI G, 205, .inl (fun z9 => iI (ss z9)))), (m2, .inl (cI G, 1230, .inl (fun z9 => iI (hi z9)))), (m3, .inl (cI G, 410, .inl (fun z9 => iI (sl z9)))), (m4, .inl (cI G, 80, .inl (fun z9 => nI (tx z9)))), (m5, .inl (cI G, 128, .inl (fun z9 => iI (ne z9))))]) H0) 0 0 (va_A ([(mh, .inr (8, [.int (th), .ref m1, .ref m2, .int (nI (kn)), .ref m3, .int (nI (ke)), .ref m4, .int (nI (le)), .ref m5, .int (sp), .int (wr), .int (nI (120)), .int (on), .int (tw), .int (dn)])), (m1, .inl (cI G, 205, .inl (fun z9 => iI (ss z9)))), (m2, .inl (cI G, 1230, .inl (fun z9 => iI (hi z9)))), (m3, .inl (cI G, 410, .inl (fun z9 => iI (sl z9)))), (m4, .inl (cI G, 80, .inl (fun z9 => nI (tx z9)))), (m5, .inl (cI G, 128, .inl (fun z9 => iI (ne z9))))]) H0.size) := by
  refine enter (cc := cX9_does) (maxL := 3) (ret := some .boolean) (own := RX9) (lv := [(0, .ref mh)]) (by decide) rfl rfl rfl (Nat.le_of_ble_eq_true rfl) ?_
  intro pg ev s m below meth c hx hb hr hts hown hlocks hml hnm hH hC ls hl
  subst hH
  have hLo := va_freeB hB0 hC.2.2.2.1
  have hD := hB0.self (sz := s.heap.size)
  have hS : va_S (va_A ([(mh, .inr (8, [.int (th), .ref m1, .ref m2, .int (nI (kn)), .ref m3, .int (nI (ke)), .ref m4, .int (nI (le)), .ref m5, .int (sp), .int (wr), .int (nI (120)), .int (on), .int (tw), .int (dn)])), (m1, .inl (cI G, 205, .inl (fun z9 => iI (ss z9)))), (m2, .inl (cI G, 1230, .inl (fun z9 => iI (hi z9)))), (m3, .inl (cI G, 410, .inl (fun z9 => iI (sl z9)))), (m4, .inl (cI G, 80, .inl (fun z9 => nI (tx z9)))), (m5, .inl (cI G, 128, .inl (fun z9 => iI (ne z9))))]) s.heap.size) s.heap s.heap [] := va_S.rf
  unfold qMi
  generalize hAe : va_A ([(mh, .inr (8, [.int (th), .ref m1, .ref m2, .int (nI (kn)), .ref m3, .int (nI (ke)), .ref m4, .int (nI (le)), .ref m5, .int (sp), .int (wr), .int (nI (120)), .int (on), .int (tw), .int (dn)])), (m1, .inl (cI G, 205, .inl (fun z9 => iI (ss z9)))), (m2, .inl (cI G, 1230, .inl (fun z9 => iI (hi z9)))), (m3, .inl (cI G, 410, .inl (fun z9 => iI (sl z9)))), (m4, .inl (cI G, 80, .inl (fun z9 => nI (tx z9)))), (m5, .inl (cI G, 128, .inl (fun z9 => iI (ne z9))))]) s.heap.size = A at hD hLo hS ⊢
  have hA : ∀ q, s.heap.size ≤ q → A q := fun q h => by rw [← hAe]; exact Or.inr h
  generalize ([] : List Loc) = locs at hS ⊢
  have hP := hP0
  refine lv_aload_n hx hb dX9_does_0 rfl (lv_at hl 0 rfl) ?_
  refine va_get (D := gD G) (cl := vwCl) (tys := tyl G) (ci := 8) (v := .int (nI (120))) (C := RX9) (T := TX9) (N := 15) hx hb hts (by decide +kernel) hown hC.K hP 0 rfl rfl 11 (by decide) (hts (.fieldLink RX9 137 "MotionPostModel" "sign" "I") (by decide +kernel)) (fun _ h9 => h9) rfl dX9_does_1 ?_
  refine lv_bipush (v := nI (115)) hx hb dX9_does_4 (by decide) ?_
  refine lv_icmp_eq (tgt := 18) hx hb dX9_does_6 (by decide) (fun c_1 => ?_) (fun c_1 => ?_)
  · have f_2 : (120 : Int) = (115 : Int) := (c_eq (nI_toInt (n := 120) (by omega)) (nI_toInt (n := 115) (by omega))).mp c_1
    exfalso; omega
  · have f_3 : ¬ (120 : Int) = (115 : Int) := fun z => c_1 ((c_eq (nI_toInt (n := 120) (by omega)) (nI_toInt (n := 115) (by omega))).mpr z)
    refine lv_aload_n hx hb dX9_does_9 rfl (lv_at hl 0 rfl) ?_
    refine va_get (D := gD G) (cl := vwCl) (tys := tyl G) (ci := 8) (v := .int (nI (120))) (C := RX9) (T := TX9) (N := 15) hx hb hts (by decide +kernel) hown hC.K hP 0 rfl rfl 11 (by decide) (hts (.fieldLink RX9 137 "MotionPostModel" "sign" "I") (by decide +kernel)) (fun _ h9 => h9) rfl dX9_does_10 ?_
    refine lv_bipush (v := nI (120)) hx hb dX9_does_13 (by decide) ?_
    refine lv_icmp_ne (tgt := 22) hx hb dX9_does_15 (by decide) (fun c_4 => ?_) (fun c_4 => ?_)
    · have f_5 : ¬ (120 : Int) = (120 : Int) := fun z => c_4 ((c_eq (nI_toInt (n := 120) (by omega)) (nI_toInt (n := 120) (by omega))).mpr z)
      exfalso; omega
    · have f_6 : (120 : Int) = (120 : Int) := (c_eq (nI_toInt (n := 120) (by omega)) (nI_toInt (n := 120) (by omega))).mp c_4
      refine lv_iconst (v := nI (1)) hx hb dX9_does_18 (by decide) ?_
      refine lv_goto (tgt := 23) hx hb dX9_does_19 (by decide) ?_
      refine lv_istore_n (lv' := [(1, .int (nI (1))), (0, .ref mh)]) hx hb dX9_does_23 rfl hl (by decide) rfl (fun ls hl => ?_)
      refine lv_aload_n hx hb dX9_does_24 rfl (lv_at hl 1 rfl) ?_
      refine va_get (D := gD G) (cl := vwCl) (tys := tyl G) (ci := 8) (v := .int (nI (120))) (C := RX9) (T := TX9) (N := 15) hx hb hts (by decide +kernel) hown hC.K hP 0 rfl rfl 11 (by decide) (hts (.fieldLink RX9 137 "MotionPostModel" "sign" "I") (by decide +kernel)) (fun _ h9 => h9) rfl dX9_does_25 ?_
      refine lv_bipush (v := nI (112)) hx hb dX9_does_28 (by decide) ?_
      refine lv_icmp_ne (tgt := 52) hx hb dX9_does_30 (by decide) (fun c_7 => ?_) (fun c_7 => ?_)
      · have f_8 : ¬ (120 : Int) = (112 : Int) := fun z => c_7 ((c_eq (nI_toInt (n := 120) (by omega)) (nI_toInt (n := 112) (by omega))).mpr z)
        refine lv_iload_n hx hb dX9_does_52 rfl (lv_at hl 0 rfl) ?_
        refine lv_if_eq (tgt := 72) hx hb dX9_does_53 (by decide) (fun c_9 => ?_) (fun c_9 => ?_)
        · have f_10 : (1 : Int) = (0 : Int) := (c_eq (nI_toInt (n := 1) (by omega)) rfl).mp c_9
          exfalso; omega
        · have f_11 : ¬ (1 : Int) = (0 : Int) := fun z => c_9 ((c_eq (nI_toInt (n := 1) (by omega)) rfl).mpr z)
          refine lv_aload_n hx hb dX9_does_56 rfl (lv_at hl 1 rfl) ?_
          refine va_get (D := gD G) (cl := vwCl) (tys := tyl G) (ci := 8) (v := .ref m1) (C := RX9) (T := TX9) (N := 15) hx hb hts (by decide +kernel) hown hC.K hP 0 rfl rfl 1 (by decide) (hts (.fieldLink RX9 7 "MotionPostModel" "s" "[I") (by decide +kernel)) (fun _ h9 => h9) rfl dX9_does_57 ?_
          refine lv_sipush (v := nI (194)) hx hb dX9_does_60 (by decide) ?_
          have hM9 := hMR.2.2.2.1
          refine gIald (j := 194) hx hb hC.K hP 1 0 rfl rfl (rfl) (by omega) (by decide) dX9_does_63 ?_
          refine lv_sipush (v := nI (999)) hx hb dX9_does_64 (by decide) ?_
          refine lv_icmp_ne (tgt := 72) hx hb dX9_does_67 (by decide) (fun c_12 => ?_) (fun c_12 => ?_)
          · have f_13 : ¬ (ss 194) = (999 : Int) := fun z => c_12 ((c_eq (iI_toInt (by omega) (by omega)) (nI_toInt (n := 999) (by omega))).mpr z)
            refine lv_aload_n hx hb dX9_does_72 rfl (lv_at hl 1 rfl) ?_
            refine va_get (D := gD G) (cl := vwCl) (tys := tyl G) (ci := 8) (v := .int (nI (120))) (C := RX9) (T := TX9) (N := 15) hx hb hts (by decide +kernel) hown hC.K hP 0 rfl rfl 11 (by decide) (hts (.fieldLink RX9 137 "MotionPostModel" "sign" "I") (by decide +kernel)) (fun _ h9 => h9) rfl dX9_does_73 ?_
            refine lv_bipush (v := nI (112)) hx hb dX9_does_76 (by decide) ?_
            refine lv_icmp_ne (tgt := 96) hx hb dX9_does_78 (by decide) (fun c_14 => ?_) (fun c_14 => ?_)
            · have f_15 : ¬ (120 : Int) = (112 : Int) := fun z => c_14 ((c_eq (nI_toInt (n := 120) (by omega)) (nI_toInt (n := 112) (by omega))).mpr z)
              refine lv_iload_n hx hb dX9_does_96 rfl (lv_at hl 0 rfl) ?_
              refine lv_if_eq (tgt := 121) hx hb dX9_does_97 (by decide) (fun c_16 => ?_) (fun c_16 => ?_)
              · have f_17 : (1 : Int) = (0 : Int) := (c_eq (nI_toInt (n := 1) (by omega)) rfl).mp c_16
                exfalso; omega
              · have f_18 : ¬ (1 : Int) = (0 : Int) := fun z => c_16 ((c_eq (nI_toInt (n := 1) (by omega)) rfl).mpr z)
                refine lv_aload_n hx hb dX9_does_100 rfl (lv_at hl 1 rfl) ?_
                refine lv_aload_n hx hb dX9_does_101 rfl (lv_at hl 1 rfl) ?_
                refine va_get (D := gD G) (cl := vwCl) (tys := tyl G) (ci := 8) (v := .int (nI (120))) (C := RX9) (T := TX9) (N := 15) hx hb hts (by decide +kernel) hown hC.K hP 0 rfl rfl 11 (by decide) (hts (.fieldLink RX9 137 "MotionPostModel" "sign" "I") (by decide +kernel)) (fun _ h9 => h9) rfl dX9_does_102 ?_
                refine lv_bipush (v := nI (120)) hx hb dX9_does_105 (by decide) ?_
                refine lv_icmp_ne (tgt := 114) hx hb dX9_does_107 (by decide) (fun c_19 => ?_) (fun c_19 => ?_)
                · have f_20 : ¬ (120 : Int) = (120 : Int) := fun z => c_19 ((c_eq (nI_toInt (n := 120) (by omega)) (nI_toInt (n := 120) (by omega))).mpr z)
                  exfalso; omega
                · have f_21 : (120 : Int) = (120 : Int) := (c_eq (nI_toInt (n := 120) (by omega)) (nI_toInt (n := 120) (by omega))).mp c_19
                  refine lv_iconst (v := nI (1)) hx hb dX9_does_110 (by decide) ?_
                  refine lv_goto (tgt := 115) hx hb dX9_does_111 (by decide) ?_
                  refine kMi (va_runV (As := [.int (nI (1))]) (rest := []) ⟨hx, hb, hml, hown, hts⟩ (c_X9_sends_k1 mh m1 m2 m3 m4 m5 ss hi sl tx ne th kn ke le sp wr (nI (120)) on tw dn (by first | assumption | omega) (by first | assumption | omega) (hP.sub [0, 1, 2, 3, 4, 5] rfl) ((hD.sub [0, 1, 2, 3, 4, 5] (by decide) rfl).weaken (fun _ _ _ h => hLo _ h))) (cwV 1 hts gX9_does_X9_sends rfl rfl rfl (by decide +kernel) ⟨Nat.le_of_ble_eq_true rfl, Nat.le_of_ble_eq_true rfl⟩) (preV hC hS hLo hP (ci := 8) (q0 := 0) rfl rfl) rfl rfl hl.1 rfl (lv_room (Nat.le_of_ble_eq_true rfl)) dX9_does_115 ⟨Nat.zero_le _, Nat.zero_le _⟩) hP hD hS hA [0, 1, 2, 3, 4, 5] (by decide) rfl (fun _ => rfl) (fun r_24 u_22 H locs q_23 hP hD hS => ?_)
                  have hP : PP G ([(mh, .inr (8, [.int (th), .ref m1, .ref m2, .int (nI (kn)), .ref m3, .int (nI (ke)), .ref m4, .int (nI (le)), .ref m5, .int (sp), .int (wr), .int (nI (120)), .int (on), .int (tw), .int (dn)])), (m1, .inl (cI G, 205, .inl (fun z9 => iI ((sdR ss (dS ss) (dS ss) (fun _ => 0) (BEST (dS ss) (tS ss)) (264) 1) z9)))), (m2, .inl (cI G, 1230, .inl (fun z9 => iI (hi z9)))), (m3, .inl (cI G, 410, .inl (fun z9 => iI (sl z9)))), (m4, .inl (cI G, 80, .inl (fun z9 => nI (tx z9)))), (m5, .inl (cI G, 128, .inl (fun z9 => iI ((nxP (dS ss) (dS ss) ne 4) z9))))]) H := hP
                  have hD : va_D A ([(mh, .inr (8, [.int (th), .ref m1, .ref m2, .int (nI (kn)), .ref m3, .int (nI (ke)), .ref m4, .int (nI (le)), .ref m5, .int (sp), .int (wr), .int (nI (120)), .int (on), .int (tw), .int (dn)])), (m1, .inl (cI G, 205, .inl (fun z9 => iI ((sdR ss (dS ss) (dS ss) (fun _ => 0) (BEST (dS ss) (tS ss)) (264) 1) z9)))), (m2, .inl (cI G, 1230, .inl (fun z9 => iI (hi z9)))), (m3, .inl (cI G, 410, .inl (fun z9 => iI (sl z9)))), (m4, .inl (cI G, 80, .inl (fun z9 => nI (tx z9)))), (m5, .inl (cI G, 128, .inl (fun z9 => iI ((nxP (dS ss) (dS ss) ne 4) z9))))]) := hD
                  refine topE (v' := nI (264)) (q_23) ?_
                  refine lv_goto (tgt := 179) hx hb dX9_does_118 (by decide) ?_
                  refine lv_istore_n (lv' := [(2, .int (nI (264))), (1, .int (nI (1))), (0, .ref mh)]) hx hb dX9_does_179 rfl hl (by decide) rfl (fun ls hl => ?_)
                  refine lv_iconst (v := nI (1)) hx hb dX9_does_180 (by decide) ?_
                  exact xMi (G := G) (post := (fun (r : Int32) (u : Unit) => r = nI (1))) (w1 := (fun (u : Unit) => [(mh, .inr (8, [.int (th), .ref m1, .ref m2, .int (nI (kn)), .ref m3, .int (nI (ke)), .ref m4, .int (nI (le)), .ref m5, .int (sp), .int (wr), .int (nI (120)), .int (on), .int (tw), .int (dn)])), (m1, .inl (cI G, 205, .inl (fun z9 => iI ((sdR ss (dS ss) (dS ss) (fun _ => 0) (BEST (dS ss) (tS ss)) (264) 1) z9)))), (m2, .inl (cI G, 1230, .inl (fun z9 => iI (hi z9)))), (m3, .inl (cI G, 410, .inl (fun z9 => iI (sl z9)))), (m4, .inl (cI G, 80, .inl (fun z9 => nI (tx z9)))), (m5, .inl (cI G, 128, .inl (fun z9 => iI ((nxP (dS ss) (dS ss) ne 4) z9))))])) (()) hx hb hr hlocks hP hS (by exact rfl) (by exact rfl) dX9_does_181
            · have f_25 : (120 : Int) = (112 : Int) := (c_eq (nI_toInt (n := 120) (by omega)) (nI_toInt (n := 112) (by omega))).mp c_14
              exfalso; omega
          · have f_26 : (ss 194) = (999 : Int) := (c_eq (iI_toInt (by omega) (by omega)) (nI_toInt (n := 999) (by omega))).mp c_12
            exfalso; omega
      · have f_27 : (120 : Int) = (112 : Int) := (c_eq (nI_toInt (n := 120) (by omega)) (nI_toInt (n := 112) (by omega))).mp c_7
        exfalso; omega
