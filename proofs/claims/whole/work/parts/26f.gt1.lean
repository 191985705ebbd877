set_option maxHeartbeats 4000000 in
set_option maxRecDepth 100000 in
theorem c_gt1 {l : Launch} {G : GT} {H0 : Heap} (mh m1 m2 m3 m4 m5 : Nat) (ss hi sl : Nat → Int) (tx : Nat → Nat) (ne : Nat → Int) (th : Int32) (kn ke le : Nat) (sp wr si on tw dn : Int32) (htx : T128 tx) (hle : le ≤ 80) (hMR : MR ss) (hok : FE tx le = -1) (hP0 : PP G ([(mh, .inr (8, [.int (th), .ref m1, .ref m2, .int (nI (kn)), .ref m3, .int (nI (ke)), .ref m4, .int (nI (le)), .ref m5, .int (sp), .int (wr), .int (si), .int (on), .int (tw), .int (dn)])), (m1, .inl (cI G, 205, .inl (fun z9 => iI (ss z9)))), (m2, .inl (cI G, 1230, .inl (fun z9 => iI (hi z9)))), (m3, .inl (cI G, 410, .inl (fun z9 => iI (sl z9)))), (m4, .inl (cI G, 80, .inl (fun z9 => nI (tx z9)))), (m5, .inl (cI G, 128, .inl (fun z9 => iI (ne z9))))]) H0) (hB0 : va_D (lo G) ([(mh, .inr (8, [.int (th), .ref m1, .ref m2, .int (nI (kn)), .ref m3, .int (nI (ke)), .ref m4, .int (nI (le)), .ref m5, .int (sp), .int (wr), .int (si), .int (on), .int (tw), .int (dn)])), (m1, .inl (cI G, 205, .inl (fun z9 => iI (ss z9)))), (m2, .inl (cI G, 1230, .inl (fun z9 => iI (hi z9)))), (m3, .inl (cI G, 410, .inl (fun z9 => iI (sl z9)))), (m4, .inl (cI G, 80, .inl (fun z9 => nI (tx z9)))), (m5, .inl (cI G, 128, .inl (fun z9 => iI (ne z9))))])) : Met l yX9_goesThrough wsX9_goesThrough ({ frames := 11, cells := 0, slots := 0, locals := 259 } : Room) (pcG G [.ref mh, .int (nI (1))] H0) (qMv G (fun (u : (Nat → Int) × Nat × Int32 × Int32 × Int32) => True) (fun (u : (Nat → Int) × Nat × Int32 × Int32 × Int32) => [(mh, .inr (8, [.int (th), .ref m1, .ref m2, .int (nI (kn)), .ref m3, .int (nI (ke)), .ref m4, .int (nI (le)), .ref m5, .int (nI (u.2.1)), .int (nI (0)), .int (u.2.2.1), .int (u.2.2.2.1), .int (u.2.2.2.2), .int (nI ((rC tx le (le + 1) 0 ss 0).2))])), (m1, .inl (cI G, 205, .inl (fun z9 => iI (((rC tx le (le + 1) 0 ss 0).1) z9)))), (m2, .inl (cI G, 1230, .inl (fun z9 => iI (hi z9)))), (m3, .inl (cI G, 410, .inl (fun z9 => iI (sl z9)))), (m4, .inl (cI G, 80, .inl (fun z9 => nI (tx z9)))), (m5, .inl (cI G, 128, .inl (fun z9 => iI (u.1 z9))))]) ([(mh, .inr (8, [.int (th), .ref m1, .ref m2, .int (nI (kn)), .ref m3, .int (nI (ke)), .ref m4, .int (nI (le)), .ref m5, .int (sp), .int (wr), .int (si), .int (on), .int (tw), .int (dn)])), (m1, .inl (cI G, 205, .inl (fun z9 => iI (ss z9)))), (m2, .inl (cI G, 1230, .inl (fun z9 => iI (hi z9)))), (m3, .inl (cI G, 410, .inl (fun z9 => iI (sl z9)))), (m4, .inl (cI G, 80, .inl (fun z9 => nI (tx z9)))), (m5, .inl (cI G, 128, .inl (fun z9 => iI (ne z9))))]) H0) 0 0 (va_A ([(mh, .inr (8, [.int (th), .ref m1, .ref m2, .int (nI (kn)), .ref m3, .int (nI (ke)), .ref m4, .int (nI (le)), .ref m5, .int (sp), .int (wr), .int (si), .int (on), .int (tw), .int (dn)])), (m1, .inl (cI G, 205, .inl (fun z9 => iI (ss z9)))), (m2, .inl (cI G, 1230, .inl (fun z9 => iI (hi z9)))), (m3, .inl (cI G, 410, .inl (fun z9 => iI (sl z9)))), (m4, .inl (cI G, 80, .inl (fun z9 => nI (tx z9)))), (m5, .inl (cI G, 128, .inl (fun z9 => iI (ne z9))))]) H0.size) := by
  refine enter (cc := cX9_goesThrough) (maxL := 5) (ret := none) (own := RX9) (lv := [(0, .ref mh), (1, .int (nI (1)))]) (by decide) rfl rfl rfl (Nat.le_of_ble_eq_true rfl) ?_
  intro pg ev s m below meth c hx hb hr hts hown hlocks hml hnm hH hC ls hl
  subst hH
  have hLo := va_freeB hB0 hC.2.2.2.1
  have hD := hB0.self (sz := s.heap.size)
  have hS : va_S (va_A ([(mh, .inr (8, [.int (th), .ref m1, .ref m2, .int (nI (kn)), .ref m3, .int (nI (ke)), .ref m4, .int (nI (le)), .ref m5, .int (sp), .int (wr), .int (si), .int (on), .int (tw), .int (dn)])), (m1, .inl (cI G, 205, .inl (fun z9 => iI (ss z9)))), (m2, .inl (cI G, 1230, .inl (fun z9 => iI (hi z9)))), (m3, .inl (cI G, 410, .inl (fun z9 => iI (sl z9)))), (m4, .inl (cI G, 80, .inl (fun z9 => nI (tx z9)))), (m5, .inl (cI G, 128, .inl (fun z9 => iI (ne z9))))]) s.heap.size) s.heap s.heap [] := va_S.rf
  unfold qMv
  generalize hAe : va_A ([(mh, .inr (8, [.int (th), .ref m1, .ref m2, .int (nI (kn)), .ref m3, .int (nI (ke)), .ref m4, .int (nI (le)), .ref m5, .int (sp), .int (wr), .int (si), .int (on), .int (tw), .int (dn)])), (m1, .inl (cI G, 205, .inl (fun z9 => iI (ss z9)))), (m2, .inl (cI G, 1230, .inl (fun z9 => iI (hi z9)))), (m3, .inl (cI G, 410, .inl (fun z9 => iI (sl z9)))), (m4, .inl (cI G, 80, .inl (fun z9 => nI (tx z9)))), (m5, .inl (cI G, 128, .inl (fun z9 => iI (ne z9))))]) s.heap.size = A at hD hLo hS ⊢
  have hA : ∀ q, s.heap.size ≤ q → A q := fun q h => by rw [← hAe]; exact Or.inr h
  generalize ([] : List Loc) = locs at hS ⊢
  have hP := hP0
  refine lv_aload_n hx hb dX9_goesThrough_0 rfl (lv_at hl 0 rfl) ?_
  refine lv_iconst (v := nI (0)) hx hb dX9_goesThrough_1 (by decide) ?_
  refine va_put (D := gD G) (cl := vwCl) (tys := tyl G) (ci := 8) (v := .int (nI (0))) (ty := .int) (C := RX9) (T := TX9) (N := 15) hx hb hts (by decide +kernel) tyX9 tyX9_ok nmX9 hown hC.K hP hD hS 0 rfl rfl 9 (by decide) (hts (.fieldLink RX9 131 "MotionPostModel" "spot" "I") (by decide +kernel)) (fun _ h9 => h9) rfl (by decide +kernel) (rfl) rfl (Nat.le_of_ble_eq_true rfl) dX9_goesThrough_2 (fun H locs hP hD hS => ?_)
  have hP : PP G ([(mh, .inr (8, [.int (th), .ref m1, .ref m2, .int (nI (kn)), .ref m3, .int (nI (ke)), .ref m4, .int (nI (le)), .ref m5, .int (nI (0)), .int (wr), .int (si), .int (on), .int (tw), .int (dn)])), (m1, .inl (cI G, 205, .inl (fun z9 => iI (ss z9)))), (m2, .inl (cI G, 1230, .inl (fun z9 => iI (hi z9)))), (m3, .inl (cI G, 410, .inl (fun z9 => iI (sl z9)))), (m4, .inl (cI G, 80, .inl (fun z9 => nI (tx z9)))), (m5, .inl (cI G, 128, .inl (fun z9 => iI (ne z9))))]) H := hP
  have hD : va_D A ([(mh, .inr (8, [.int (th), .ref m1, .ref m2, .int (nI (kn)), .ref m3, .int (nI (ke)), .ref m4, .int (nI (le)), .ref m5, .int (nI (0)), .int (wr), .int (si), .int (on), .int (tw), .int (dn)])), (m1, .inl (cI G, 205, .inl (fun z9 => iI (ss z9)))), (m2, .inl (cI G, 1230, .inl (fun z9 => iI (hi z9)))), (m3, .inl (cI G, 410, .inl (fun z9 => iI (sl z9)))), (m4, .inl (cI G, 80, .inl (fun z9 => nI (tx z9)))), (m5, .inl (cI G, 128, .inl (fun z9 => iI (ne z9))))]) := hD
  refine lv_aload_n hx hb dX9_goesThrough_5 rfl (lv_at hl 0 rfl) ?_
  refine lv_iconst (v := nI (0)) hx hb dX9_goesThrough_6 (by decide) ?_
  refine va_put (D := gD G) (cl := vwCl) (tys := tyl G) (ci := 8) (v := .int (nI (0))) (ty := .boolean) (C := RX9) (T := TX9) (N := 15) hx hb hts (by decide +kernel) tyX9 tyX9_ok nmX9 hown hC.K hP hD hS 0 rfl rfl 10 (by decide) (hts (.fieldLink RX9 127 "MotionPostModel" "isWrong" "Z") (by decide +kernel)) (fun _ h9 => h9) rfl (by decide +kernel) (rfl) rfl (Nat.le_of_ble_eq_true rfl) dX9_goesThrough_7 (fun H locs hP hD hS => ?_)
  have hP : PP G ([(mh, .inr (8, [.int (th), .ref m1, .ref m2, .int (nI (kn)), .ref m3, .int (nI (ke)), .ref m4, .int (nI (le)), .ref m5, .int (nI (0)), .int (nI (0)), .int (si), .int (on), .int (tw), .int (dn)])), (m1, .inl (cI G, 205, .inl (fun z9 => iI (ss z9)))), (m2, .inl (cI G, 1230, .inl (fun z9 => iI (hi z9)))), (m3, .inl (cI G, 410, .inl (fun z9 => iI (sl z9)))), (m4, .inl (cI G, 80, .inl (fun z9 => nI (tx z9)))), (m5, .inl (cI G, 128, .inl (fun z9 => iI (ne z9))))]) H := hP
  have hD : va_D A ([(mh, .inr (8, [.int (th), .ref m1, .ref m2, .int (nI (kn)), .ref m3, .int (nI (ke)), .ref m4, .int (nI (le)), .ref m5, .int (nI (0)), .int (nI (0)), .int (si), .int (on), .int (tw), .int (dn)])), (m1, .inl (cI G, 205, .inl (fun z9 => iI (ss z9)))), (m2, .inl (cI G, 1230, .inl (fun z9 => iI (hi z9)))), (m3, .inl (cI G, 410, .inl (fun z9 => iI (sl z9)))), (m4, .inl (cI G, 80, .inl (fun z9 => nI (tx z9)))), (m5, .inl (cI G, 128, .inl (fun z9 => iI (ne z9))))]) := hD
  refine lv_aload_n hx hb dX9_goesThrough_10 rfl (lv_at hl 0 rfl) ?_
  refine lv_iconst (v := nI (0)) hx hb dX9_goesThrough_11 (by decide) ?_
  refine va_put (D := gD G) (cl := vwCl) (tys := tyl G) (ci := 8) (v := .int (nI (0))) (ty := .int) (C := RX9) (T := TX9) (N := 15) hx hb hts (by decide +kernel) tyX9 tyX9_ok nmX9 hown hC.K hP hD hS 0 rfl rfl 14 (by decide) (hts (.fieldLink RX9 149 "MotionPostModel" "done" "I") (by decide +kernel)) (fun _ h9 => h9) rfl (by decide +kernel) (rfl) rfl (Nat.le_of_ble_eq_true rfl) dX9_goesThrough_12 (fun H locs hP hD hS => ?_)
  have hP : PP G ([(mh, .inr (8, [.int (th), .ref m1, .ref m2, .int (nI (kn)), .ref m3, .int (nI (ke)), .ref m4, .int (nI (le)), .ref m5, .int (nI (0)), .int (nI (0)), .int (si), .int (on), .int (tw), .int (nI (0))])), (m1, .inl (cI G, 205, .inl (fun z9 => iI (ss z9)))), (m2, .inl (cI G, 1230, .inl (fun z9 => iI (hi z9)))), (m3, .inl (cI G, 410, .inl (fun z9 => iI (sl z9)))), (m4, .inl (cI G, 80, .inl (fun z9 => nI (tx z9)))), (m5, .inl (cI G, 128, .inl (fun z9 => iI (ne z9))))]) H := hP
  have hD : va_D A ([(mh, .inr (8, [.int (th), .ref m1, .ref m2, .int (nI (kn)), .ref m3, .int (nI (ke)), .ref m4, .int (nI (le)), .ref m5, .int (nI (0)), .int (nI (0)), .int (si), .int (on), .int (tw), .int (nI (0))])), (m1, .inl (cI G, 205, .inl (fun z9 => iI (ss z9)))), (m2, .inl (cI G, 1230, .inl (fun z9 => iI (hi z9)))), (m3, .inl (cI G, 410, .inl (fun z9 => iI (sl z9)))), (m4, .inl (cI G, 80, .inl (fun z9 => nI (tx z9)))), (m5, .inl (cI G, 128, .inl (fun z9 => iI (ne z9))))]) := hD
  refine lv_iload_n hx hb dX9_goesThrough_15 rfl (lv_at hl 1 rfl) ?_
  refine lv_istore_n (lv' := [(2, .int (nI (1))), (0, .ref mh), (1, .int (nI (1)))]) hx hb dX9_goesThrough_16 rfl hl (by decide) rfl (fun ls hl => ?_)
  refine lv_iconst (v := nI (1)) hx hb dX9_goesThrough_17 (by decide) ?_
  refine lv_istore_n (lv' := [(3, .int (nI (1))), (2, .int (nI (1))), (0, .ref mh), (1, .int (nI (1)))]) hx hb dX9_goesThrough_18 rfl hl (by decide) rfl (fun ls hl => ?_)
  have L_19 : ∀ (n_19 : Nat) (i n gg dn9 : Nat) (s9 ne9 : Nat → Int) (si9 on9 tw9 : Int32), le + 1 - i < n_19 → (dst tx i = 0) → (HF tx le i) → (le - i < n) → ((gg = 1 ∧ rC tx le n i s9 dn9 = rC tx le (le + 1) 0 ss 0) ∨ (gg = 0 ∧ (s9, dn9) = rC tx le (le + 1) 0 ss 0)) → (MR s9) → ∀ (H : Heap) (locs : List Loc) (ls : Array Slot), PP G ([(mh, .inr (8, [.int (th), .ref m1, .ref m2, .int (nI (kn)), .ref m3, .int (nI (ke)), .ref m4, .int (nI (le)), .ref m5, .int (nI (i)), .int (nI (0)), .int (si9), .int (on9), .int (tw9), .int (nI (dn9))])), (m1, .inl (cI G, 205, .inl (fun z9 => iI (s9 z9)))), (m2, .inl (cI G, 1230, .inl (fun z9 => iI (hi z9)))), (m3, .inl (cI G, 410, .inl (fun z9 => iI (sl z9)))), (m4, .inl (cI G, 80, .inl (fun z9 => nI (tx z9)))), (m5, .inl (cI G, 128, .inl (fun z9 => iI (ne9 z9))))]) H → va_D A ([(mh, .inr (8, [.int (th), .ref m1, .ref m2, .int (nI (kn)), .ref m3, .int (nI (ke)), .ref m4, .int (nI (le)), .ref m5, .int (nI (i)), .int (nI (0)), .int (si9), .int (on9), .int (tw9), .int (nI (dn9))])), (m1, .inl (cI G, 205, .inl (fun z9 => iI (s9 z9)))), (m2, .inl (cI G, 1230, .inl (fun z9 => iI (hi z9)))), (m3, .inl (cI G, 410, .inl (fun z9 => iI (sl z9)))), (m4, .inl (cI G, 80, .inl (fun z9 => nI (tx z9)))), (m5, .inl (cI G, 128, .inl (fun z9 => iI (ne9 z9))))]) → va_S A s.heap H locs → lv_has ls 5 [(0, .ref mh), (1, .int (nI (1))), (2, .int (nI (gg))), (3, .int (nI (1)))] → W pg l ev ({ frames := 11, cells := 0, slots := 0, locals := 259 } : Room) s m (([.ref mh, .int (nI (1))] : List Value).toArray) below meth c H locs 0 0 (MQ below (va_Qv (fun (u : (Nat → Int) × Nat × Int32 × Int32 × Int32) => True) (fun (u : (Nat → Int) × Nat × Int32 × Int32 × Int32) t9 => PP G ([(mh, .inr (8, [.int (th), .ref m1, .ref m2, .int (nI (kn)), .ref m3, .int (nI (ke)), .ref m4, .int (nI (le)), .ref m5, .int (nI (u.2.1)), .int (nI (0)), .int (u.2.2.1), .int (u.2.2.2.1), .int (u.2.2.2.2), .int (nI ((rC tx le (le + 1) 0 ss 0).2))])), (m1, .inl (cI G, 205, .inl (fun z9 => iI (((rC tx le (le + 1) 0 ss 0).1) z9)))), (m2, .inl (cI G, 1230, .inl (fun z9 => iI (hi z9)))), (m3, .inl (cI G, 410, .inl (fun z9 => iI (sl z9)))), (m4, .inl (cI G, 80, .inl (fun z9 => nI (tx z9)))), (m5, .inl (cI G, 128, .inl (fun z9 => iI (u.1 z9))))]) t9.heap) A) (([.ref mh, .int (nI (1))] : List Value).toArray) s 0 0 A) (F0 m 19 ls []) := by
    intro n_19
    induction n_19 with
    | zero => intro i n gg dn9 s9 ne9 si9 on9 tw9 hn; exact absurd hn (Nat.not_lt_zero _)
    | succ n_19 ih_19 =>
      intro i n gg dn9 s9 ne9 si9 on9 tw9 hn_19 hd hf hn hg hM H locs ls hP hD hS hl
      refine lv_iload_n hx hb dX9_goesThrough_19 rfl (lv_at hl 3 rfl) ?_
      refine lv_if_eq (tgt := 123) hx hb dX9_goesThrough_20 (by decide) (fun c_1 => ?_) (fun c_1 => ?_)
      · have f_2 : (1 : Int) = (0 : Int) := (c_eq (nI_toInt (n := 1) (by omega)) rfl).mp c_1
        exfalso; omega
      · have f_3 : ¬ (1 : Int) = (0 : Int) := fun z => c_1 ((c_eq (nI_toInt (n := 1) (by omega)) rfl).mpr z)
        have hw : WC tx le i := Classical.byContradiction fun z => er_ne _ ((cmd_no hd hf z).1.symm.trans hok)
        have hce := cmd_ok hd hf hw
        have hcl := hce.1.1
        have hil := hf.1
        have hcg := ce_gt tx le i
        have hgl : gg ≤ 1 := by rcases hg with hg | hg <;> omega
        refine lv_aload_n hx hb dX9_goesThrough_23 rfl (lv_at hl 0 rfl) ?_
        refine kMv (va_runV (As := []) (rest := []) ⟨hx, hb, hml, hown, hts⟩ (c_rc_ok mh m1 m2 m3 m4 m5 s9 hi sl tx ne9 th kn ke le i si9 on9 tw9 (nI (dn9)) (by first | assumption | omega) (by first | assumption | omega) (by first | assumption | omega) (hP.sub [0, 1, 2, 3, 4, 5] rfl) ((hD.sub [0, 1, 2, 3, 4, 5] (by decide) rfl).weaken (fun _ _ _ h => hLo _ h))) (cwV 0 hts gX9_goesThrough_X9_readCommand rfl rfl rfl (by decide +kernel) ⟨Nat.le_of_ble_eq_true rfl, Nat.le_of_ble_eq_true rfl⟩) (preV hC hS hLo hP (ci := 8) (q0 := 0) rfl rfl) rfl rfl hl.1 rfl (lv_room (Nat.le_of_ble_eq_true rfl)) dX9_goesThrough_24 ⟨Nat.zero_le _, Nat.zero_le _⟩) hP hD hS hA [0, 1, 2, 3, 4, 5] (by decide) rfl (fun _ => rfl) (fun u_4 H locs q_5 hP hD hS => ?_)
        have hP : PP G ([(mh, .inr (8, [.int (th), .ref m1, .ref m2, .int (nI (kn)), .ref m3, .int (nI (ke)), .ref m4, .int (nI (le)), .ref m5, .int (nI (ceP tx le i)), .int (nI (0)), .int (u_4.1), .int (u_4.2.1), .int (u_4.2.2), .int (nI (dn9))])), (m1, .inl (cI G, 205, .inl (fun z9 => iI (s9 z9)))), (m2, .inl (cI G, 1230, .inl (fun z9 => iI (hi z9)))), (m3, .inl (cI G, 410, .inl (fun z9 => iI (sl z9)))), (m4, .inl (cI G, 80, .inl (fun z9 => nI (tx z9)))), (m5, .inl (cI G, 128, .inl (fun z9 => iI (ne9 z9))))]) H := hP
        have hD : va_D A ([(mh, .inr (8, [.int (th), .ref m1, .ref m2, .int (nI (kn)), .ref m3, .int (nI (ke)), .ref m4, .int (nI (le)), .ref m5, .int (nI (ceP tx le i)), .int (nI (0)), .int (u_4.1), .int (u_4.2.1), .int (u_4.2.2), .int (nI (dn9))])), (m1, .inl (cI G, 205, .inl (fun z9 => iI (s9 z9)))), (m2, .inl (cI G, 1230, .inl (fun z9 => iI (hi z9)))), (m3, .inl (cI G, 410, .inl (fun z9 => iI (sl z9)))), (m4, .inl (cI G, 80, .inl (fun z9 => nI (tx z9)))), (m5, .inl (cI G, 128, .inl (fun z9 => iI (ne9 z9))))]) := hD
        have hq9 := q_5
        refine lv_iload_n hx hb dX9_goesThrough_27 rfl (lv_at hl 2 rfl) ?_
        refine lv_if_eq (tgt := 49) hx hb dX9_goesThrough_28 (by decide) (fun c_7 => ?_) (fun c_7 => ?_)
        · have f_8 : ((gg : Nat) : Int) = (0 : Int) := (c_eq (nI_toInt (n := gg) (by omega)) rfl).mp c_7
          refine lv_iconst (v := nI (0)) hx hb dX9_goesThrough_49 (by decide) ?_
          refine lv_istore_n (lv' := [(2, .int (nI (0))), (0, .ref mh), (1, .int (nI (1))), (3, .int (nI (1)))]) hx hb dX9_goesThrough_50 rfl hl (by decide) rfl (fun ls hl => ?_)
          have hga : ((s9), (dn9)) = rC tx le (le + 1) 0 ss 0 := hg.elim (fun q => absurd q.1 (by omega)) (fun q => q.2)
          refine lv_aload_n hx hb dX9_goesThrough_51 rfl (lv_at hl 1 rfl) ?_
          refine lv_dup hx hb dX9_goesThrough_52 rfl ?_
          refine va_get (D := gD G) (cl := vwCl) (tys := tyl G) (ci := 8) (v := .int (nI (dn9))) (C := RX9) (T := TX9) (N := 15) hx hb hts (by decide +kernel) hown hC.K hP 0 rfl rfl 14 (by decide) (hts (.fieldLink RX9 149 "MotionPostModel" "done" "I") (by decide +kernel)) (fun _ h9 => h9) rfl dX9_goesThrough_53 ?_
          refine lv_iload_n hx hb dX9_goesThrough_56 rfl (lv_at hl 0 rfl) ?_
          refine lv_if_eq (tgt := 64) hx hb dX9_goesThrough_57 (by decide) (fun c_9 => ?_) (fun c_9 => ?_)
          · have f_10 : (0 : Int) = (0 : Int) := (c_eq (nI_toInt (n := 0) (by omega)) rfl).mp c_9
            refine lv_iconst (v := nI (0)) hx hb dX9_goesThrough_64 (by decide) ?_
            refine gAdd (z := nI (dn9 + 0)) hx hb dX9_goesThrough_65 (nI_add _ _) ?_
            refine va_put (D := gD G) (cl := vwCl) (tys := tyl G) (ci := 8) (v := .int (nI (dn9 + 0))) (ty := .int) (C := RX9) (T := TX9) (N := 15) hx hb hts (by decide +kernel) tyX9 tyX9_ok nmX9 hown hC.K hP hD hS 0 rfl rfl 14 (by decide) (hts (.fieldLink RX9 149 "MotionPostModel" "done" "I") (by decide +kernel)) (fun _ h9 => h9) rfl (by decide +kernel) (rfl) rfl (Nat.le_of_ble_eq_true rfl) dX9_goesThrough_66 (fun H locs hP hD hS => ?_)
            have hP : PP G ([(mh, .inr (8, [.int (th), .ref m1, .ref m2, .int (nI (kn)), .ref m3, .int (nI (ke)), .ref m4, .int (nI (le)), .ref m5, .int (nI (ceP tx le i)), .int (nI (0)), .int (u_4.1), .int (u_4.2.1), .int (u_4.2.2), .int (nI (dn9 + 0))])), (m1, .inl (cI G, 205, .inl (fun z9 => iI (s9 z9)))), (m2, .inl (cI G, 1230, .inl (fun z9 => iI (hi z9)))), (m3, .inl (cI G, 410, .inl (fun z9 => iI (sl z9)))), (m4, .inl (cI G, 80, .inl (fun z9 => nI (tx z9)))), (m5, .inl (cI G, 128, .inl (fun z9 => iI (ne9 z9))))]) H := hP
            have hD : va_D A ([(mh, .inr (8, [.int (th), .ref m1, .ref m2, .int (nI (kn)), .ref m3, .int (nI (ke)), .ref m4, .int (nI (le)), .ref m5, .int (nI (ceP tx le i)), .int (nI (0)), .int (u_4.1), .int (u_4.2.1), .int (u_4.2.2), .int (nI (dn9 + 0))])), (m1, .inl (cI G, 205, .inl (fun z9 => iI (s9 z9)))), (m2, .inl (cI G, 1230, .inl (fun z9 => iI (hi z9)))), (m3, .inl (cI G, 410, .inl (fun z9 => iI (sl z9)))), (m4, .inl (cI G, 80, .inl (fun z9 => nI (tx z9)))), (m5, .inl (cI G, 128, .inl (fun z9 => iI (ne9 z9))))]) := hD
            refine lv_aload_n hx hb dX9_goesThrough_69 rfl (lv_at hl 1 rfl) ?_
            refine va_get (D := gD G) (cl := vwCl) (tys := tyl G) (ci := 8) (v := .int (nI (0))) (C := RX9) (T := TX9) (N := 15) hx hb hts (by decide +kernel) hown hC.K hP 0 rfl rfl 10 (by decide) (hts (.fieldLink RX9 127 "MotionPostModel" "isWrong" "Z") (by decide +kernel)) (fun _ h9 => h9) rfl dX9_goesThrough_70 ?_
            refine lv_if_ne (tgt := 91) hx hb dX9_goesThrough_73 (by decide) (fun c_11 => ?_) (fun c_11 => ?_)
            · have f_12 : ¬ (0 : Int) = (0 : Int) := fun z => c_11 ((c_eq (nI_toInt (n := 0) (by omega)) rfl).mpr z)
              exfalso; omega
            · have f_13 : (0 : Int) = (0 : Int) := (c_eq (nI_toInt (n := 0) (by omega)) rfl).mp c_11
              refine lv_aload_n hx hb dX9_goesThrough_76 rfl (lv_at hl 1 rfl) ?_
              refine va_get (D := gD G) (cl := vwCl) (tys := tyl G) (ci := 8) (v := .int (nI (ceP tx le i))) (C := RX9) (T := TX9) (N := 15) hx hb hts (by decide +kernel) hown hC.K hP 0 rfl rfl 9 (by decide) (hts (.fieldLink RX9 131 "MotionPostModel" "spot" "I") (by decide +kernel)) (fun _ h9 => h9) rfl dX9_goesThrough_77 ?_
              refine lv_aload_n hx hb dX9_goesThrough_80 rfl (lv_at hl 1 rfl) ?_
              refine va_get (D := gD G) (cl := vwCl) (tys := tyl G) (ci := 8) (v := .int (nI (le))) (C := RX9) (T := TX9) (N := 15) hx hb hts (by decide +kernel) hown hC.K hP 0 rfl rfl 7 (by decide) (hts (.fieldLink RX9 124 "MotionPostModel" "length" "I") (by decide +kernel)) (fun _ h9 => h9) rfl dX9_goesThrough_81 ?_
              refine lv_icmp_ge (tgt := 91) hx hb dX9_goesThrough_84 (by decide) (fun c_14 => ?_) (fun c_14 => ?_)
              · have f_15 : ((le : Nat) : Int) ≤ ((ceP tx le i : Nat) : Int) := (c_le (nI_toInt (n := le) (by omega)) (nI_toInt (n := ceP tx le i) (by omega))).mp c_14
                refine lv_iconst (v := nI (0)) hx hb dX9_goesThrough_91 (by decide) ?_
                refine lv_istore_n (lv' := [(3, .int (nI (0))), (2, .int (nI (0))), (0, .ref mh), (1, .int (nI (1)))]) hx hb dX9_goesThrough_92 rfl hl (by decide) rfl (fun ls hl => ?_)
                refine lv_iload_n hx hb dX9_goesThrough_93 rfl (lv_at hl 0 rfl) ?_
                refine lv_if_eq (tgt := 19) hx hb dX9_goesThrough_94 (by decide) (fun c_16 => ?_) (fun c_16 => ?_)
                · have f_17 : (0 : Int) = (0 : Int) := (c_eq (nI_toInt (n := 0) (by omega)) rfl).mp c_16
                  refine lv_iload_n hx hb dX9_goesThrough_19 rfl (lv_at hl 0 rfl) ?_
                  refine lv_if_eq (tgt := 123) hx hb dX9_goesThrough_20 (by decide) (fun c_18 => ?_) (fun c_18 => ?_)
                  · have f_19 : (0 : Int) = (0 : Int) := (c_eq (nI_toInt (n := 0) (by omega)) rfl).mp c_18
                    have hres : ((s9), (dn9 + 0)) = rC tx le (le + 1) 0 ss 0 := hga
                    have e1 := congrArg Prod.fst hres
                    have e2 := congrArg Prod.snd hres
                    simp only at e1 e2
                    rw [e1, e2] at hP
                    exact xMv (G := G) (post := (fun (u : (Nat → Int) × Nat × Int32 × Int32 × Int32) => True)) (w1 := (fun (u : (Nat → Int) × Nat × Int32 × Int32 × Int32) => [(mh, .inr (8, [.int (th), .ref m1, .ref m2, .int (nI (kn)), .ref m3, .int (nI (ke)), .ref m4, .int (nI (le)), .ref m5, .int (nI (u.2.1)), .int (nI (0)), .int (u.2.2.1), .int (u.2.2.2.1), .int (u.2.2.2.2), .int (nI ((rC tx le (le + 1) 0 ss 0).2))])), (m1, .inl (cI G, 205, .inl (fun z9 => iI (((rC tx le (le + 1) 0 ss 0).1) z9)))), (m2, .inl (cI G, 1230, .inl (fun z9 => iI (hi z9)))), (m3, .inl (cI G, 410, .inl (fun z9 => iI (sl z9)))), (m4, .inl (cI G, 80, .inl (fun z9 => nI (tx z9)))), (m5, .inl (cI G, 128, .inl (fun z9 => iI (u.1 z9))))])) (((ne9), (ceP tx le i), u_4.1, u_4.2.1, u_4.2.2)) hx hb hr hlocks hP hS (by exact trivial) dX9_goesThrough_123
                  · have f_20 : ¬ (0 : Int) = (0 : Int) := fun z => c_18 ((c_eq (nI_toInt (n := 0) (by omega)) rfl).mpr z)
                    exfalso; omega
                · have f_21 : ¬ (0 : Int) = (0 : Int) := fun z => c_16 ((c_eq (nI_toInt (n := 0) (by omega)) rfl).mpr z)
                  exfalso; omega
              · have f_22 : ¬ ((le : Nat) : Int) ≤ ((ceP tx le i : Nat) : Int) := fun z => c_14 ((c_le (nI_toInt (n := le) (by omega)) (nI_toInt (n := ceP tx le i) (by omega))).mpr z)
                refine lv_iconst (v := nI (1)) hx hb dX9_goesThrough_87 (by decide) ?_
                refine lv_goto (tgt := 92) hx hb dX9_goesThrough_88 (by decide) ?_
                refine lv_istore_n (lv' := [(3, .int (nI (1))), (2, .int (nI (0))), (0, .ref mh), (1, .int (nI (1)))]) hx hb dX9_goesThrough_92 rfl hl (by decide) rfl (fun ls hl => ?_)
                refine lv_iload_n hx hb dX9_goesThrough_93 rfl (lv_at hl 0 rfl) ?_
                refine lv_if_eq (tgt := 19) hx hb dX9_goesThrough_94 (by decide) (fun c_23 => ?_) (fun c_23 => ?_)
                · have f_24 : (1 : Int) = (0 : Int) := (c_eq (nI_toInt (n := 1) (by omega)) rfl).mp c_23
                  exfalso; omega
                · have f_25 : ¬ (1 : Int) = (0 : Int) := fun z => c_23 ((c_eq (nI_toInt (n := 1) (by omega)) rfl).mpr z)
                  have hsc : tx (ceP tx le i) = 59 := Classical.byContradiction fun z => er_ne _ ((semi_no hce.1 hce.2.2.1 hce.2.2.2 (by omega) z).symm.trans hok)
                  refine lv_aload_n hx hb dX9_goesThrough_97 rfl (lv_at hl 2 rfl) ?_
                  refine lv_bipush (v := nI (59)) hx hb dX9_goesThrough_98 (by decide) ?_
                  refine lv_bipush (v := nI (59)) hx hb dX9_goesThrough_100 (by decide) ?_
                  refine kMi (va_runV (As := [.int (nI (59)), .int (nI (59))]) (rest := []) ⟨hx, hb, hml, hown, hts⟩ (c_X9_takes_y mh m1 m2 m3 m4 m5 s9 hi sl tx ne9 th kn ke le (ceP tx le i) u_4.1 u_4.2.1 u_4.2.2 (nI (dn9 + 0)) 59 59 (by first | assumption | omega) (by first | assumption | omega) (by omega) (by omega) (by omega) (hP.sub [0, 1, 2, 3, 4, 5] rfl) ((hD.sub [0, 1, 2, 3, 4, 5] (by decide) rfl).weaken (fun _ _ _ h => hLo _ h))) (cwV 2 hts gX9_goesThrough_X9_takes rfl rfl rfl (by decide +kernel) ⟨Nat.le_of_ble_eq_true rfl, Nat.le_of_ble_eq_true rfl⟩) (preV hC hS hLo hP (ci := 8) (q0 := 0) rfl rfl) rfl rfl hl.1 rfl (lv_room (Nat.le_of_ble_eq_true rfl)) dX9_goesThrough_102 ⟨Nat.zero_le _, Nat.zero_le _⟩) hP hD hS hA [0, 1, 2, 3, 4, 5] (by decide) rfl (fun _ => rfl) (fun r_28 u_26 H locs q_27 hP hD hS => ?_)
                  have hP : PP G ([(mh, .inr (8, [.int (th), .ref m1, .ref m2, .int (nI (kn)), .ref m3, .int (nI (ke)), .ref m4, .int (nI (le)), .ref m5, .int (nI ((ceP tx le i) + 1)), .int (nI (0)), .int (u_4.1), .int (u_4.2.1), .int (u_4.2.2), .int (nI (dn9 + 0))])), (m1, .inl (cI G, 205, .inl (fun z9 => iI (s9 z9)))), (m2, .inl (cI G, 1230, .inl (fun z9 => iI (hi z9)))), (m3, .inl (cI G, 410, .inl (fun z9 => iI (sl z9)))), (m4, .inl (cI G, 80, .inl (fun z9 => nI (tx z9)))), (m5, .inl (cI G, 128, .inl (fun z9 => iI (ne9 z9))))]) H := hP
                  have hD : va_D A ([(mh, .inr (8, [.int (th), .ref m1, .ref m2, .int (nI (kn)), .ref m3, .int (nI (ke)), .ref m4, .int (nI (le)), .ref m5, .int (nI ((ceP tx le i) + 1)), .int (nI (0)), .int (u_4.1), .int (u_4.2.1), .int (u_4.2.2), .int (nI (dn9 + 0))])), (m1, .inl (cI G, 205, .inl (fun z9 => iI (s9 z9)))), (m2, .inl (cI G, 1230, .inl (fun z9 => iI (hi z9)))), (m3, .inl (cI G, 410, .inl (fun z9 => iI (sl z9)))), (m4, .inl (cI G, 80, .inl (fun z9 => nI (tx z9)))), (m5, .inl (cI G, 128, .inl (fun z9 => iI (ne9 z9))))]) := hD
                  refine topE (v' := nI (tx (ceP tx le i))) (q_27) ?_
                  refine lv_istore (lv' := [(4, .int (nI (tx (ceP tx le i)))), (3, .int (nI (1))), (2, .int (nI (0))), (0, .ref mh), (1, .int (nI (1)))]) hx hb dX9_goesThrough_105 hl (by decide) rfl (fun ls hl => ?_)
                  refine lv_aload_n hx hb dX9_goesThrough_107 rfl (lv_at hl 3 rfl) ?_
                  refine va_get (D := gD G) (cl := vwCl) (tys := tyl G) (ci := 8) (v := .int (nI (0))) (C := RX9) (T := TX9) (N := 15) hx hb hts (by decide +kernel) hown hC.K hP 0 rfl rfl 10 (by decide) (hts (.fieldLink RX9 127 "MotionPostModel" "isWrong" "Z") (by decide +kernel)) (fun _ h9 => h9) rfl dX9_goesThrough_108 ?_
                  refine lv_if_ne (tgt := 118) hx hb dX9_goesThrough_111 (by decide) (fun c_29 => ?_) (fun c_29 => ?_)
                  · have f_30 : ¬ (0 : Int) = (0 : Int) := fun z => c_29 ((c_eq (nI_toInt (n := 0) (by omega)) rfl).mpr z)
                    exfalso; omega
                  · have f_31 : (0 : Int) = (0 : Int) := (c_eq (nI_toInt (n := 0) (by omega)) rfl).mp c_29
                    refine lv_iconst (v := nI (1)) hx hb dX9_goesThrough_114 (by decide) ?_
                    refine lv_goto (tgt := 119) hx hb dX9_goesThrough_115 (by decide) ?_
                    refine lv_istore_n (lv' := [(3, .int (nI (1))), (4, .int (nI (tx (ceP tx le i)))), (2, .int (nI (0))), (0, .ref mh), (1, .int (nI (1)))]) hx hb dX9_goesThrough_119 rfl hl (by decide) rfl (fun ls hl => ?_)
                    refine lv_goto (tgt := 19) hx hb dX9_goesThrough_120 (by decide) ?_
                    exact ih_19 (ceP tx le i + 1) (n - 1) 0 (dn9 + 0) (s9) (ne9) u_4.1 u_4.2.1 u_4.2.2 (by omega) (semi_ok hce.1 hce.2.2.1 (by omega) hsc).2 (semi_ok hce.1 hce.2.2.1 (by omega) hsc).1 (by omega) (Or.inr ⟨rfl, hga⟩) hM H locs ls hP hD hS (lv_sub hl [3, 4, 2, 0] ((lvc rfl (lvc rfl (lvc rfl (lvc rfl rfl))))))
          · have f_32 : ¬ (0 : Int) = (0 : Int) := fun z => c_9 ((c_eq (nI_toInt (n := 0) (by omega)) rfl).mpr z)
            exfalso; omega
        · have f_33 : ¬ ((gg : Nat) : Int) = (0 : Int) := fun z => c_7 ((c_eq (nI_toInt (n := gg) (by omega)) rfl).mpr z)
          refine lv_aload_n hx hb dX9_goesThrough_31 rfl (lv_at hl 0 rfl) ?_
          refine va_get (D := gD G) (cl := vwCl) (tys := tyl G) (ci := 8) (v := .int (nI (0))) (C := RX9) (T := TX9) (N := 15) hx hb hts (by decide +kernel) hown hC.K hP 0 rfl rfl 10 (by decide) (hts (.fieldLink RX9 127 "MotionPostModel" "isWrong" "Z") (by decide +kernel)) (fun _ h9 => h9) rfl dX9_goesThrough_32 ?_
          refine lv_if_ne (tgt := 49) hx hb dX9_goesThrough_35 (by decide) (fun c_34 => ?_) (fun c_34 => ?_)
          · have f_35 : ¬ (0 : Int) = (0 : Int) := fun z => c_34 ((c_eq (nI_toInt (n := 0) (by omega)) rfl).mpr z)
            exfalso; omega
          · have f_36 : (0 : Int) = (0 : Int) := (c_eq (nI_toInt (n := 0) (by omega)) rfl).mp c_34
            have hrc : rC tx le n i s9 dn9 = rC tx le (le + 1) 0 ss 0 := hg.elim (fun q => q.2) (fun q => absurd q.1 (by omega))
            have hxl := exR_le tx le i s9
            have hgb : exR tx le i s9 = 0 → ((exS tx le i s9), (dn9)) = rC tx le (le + 1) 0 ss 0 := fun z => (rC_f z).symm.trans hrc
            have hgc : ¬ exR tx le i s9 = 0 → rC tx le (le + 1) 0 ss 0 = if ceP tx le i < le then rC tx le (n - 1) (ceP tx le i + 1) (exS tx le i s9) (dn9 + 1) else (exS tx le i s9, dn9 + 1) := fun z => hrc.symm.trans (rC_s z (by omega))
            refine lv_aload_n hx hb dX9_goesThrough_38 rfl (lv_at hl 0 rfl) ?_
            refine kMi (va_runV (As := []) (rest := []) ⟨hx, hb, hml, hown, hts⟩ (c_does mh m1 m2 m3 m4 m5 s9 hi sl tx ne9 th kn ke le (nI (ceP tx le i)) (nI (0)) u_4.1 u_4.2.1 u_4.2.2 (nI (dn9)) i (hM) (hw) (hq9.1) (hq9.2) (hP.sub [0, 1, 2, 3, 4, 5] rfl) ((hD.sub [0, 1, 2, 3, 4, 5] (by decide) rfl).weaken (fun _ _ _ h => hLo _ h))) (cwV 0 hts gX9_goesThrough_X9_does rfl rfl rfl (by decide +kernel) ⟨Nat.le_of_ble_eq_true rfl, Nat.le_of_ble_eq_true rfl⟩) (preV hC hS hLo hP (ci := 8) (q0 := 0) rfl rfl) rfl rfl hl.1 rfl (lv_room (Nat.le_of_ble_eq_true rfl)) dX9_goesThrough_39 ⟨Nat.zero_le _, Nat.zero_le _⟩) hP hD hS hA [0, 1, 2, 3, 4, 5] (by decide) rfl (fun _ => rfl) (fun r_39 u_37 H locs q_38 hP hD hS => ?_)
            have hP : PP G ([(mh, .inr (8, [.int (th), .ref m1, .ref m2, .int (nI (kn)), .ref m3, .int (nI (ke)), .ref m4, .int (nI (le)), .ref m5, .int (nI (ceP tx le i)), .int (nI (0)), .int (u_4.1), .int (u_4.2.1), .int (u_4.2.2), .int (nI (dn9))])), (m1, .inl (cI G, 205, .inl (fun z9 => iI ((exS tx le i s9) z9)))), (m2, .inl (cI G, 1230, .inl (fun z9 => iI (hi z9)))), (m3, .inl (cI G, 410, .inl (fun z9 => iI (sl z9)))), (m4, .inl (cI G, 80, .inl (fun z9 => nI (tx z9)))), (m5, .inl (cI G, 128, .inl (fun z9 => iI (u_37 z9))))]) H := hP
            have hD : va_D A ([(mh, .inr (8, [.int (th), .ref m1, .ref m2, .int (nI (kn)), .ref m3, .int (nI (ke)), .ref m4, .int (nI (le)), .ref m5, .int (nI (ceP tx le i)), .int (nI (0)), .int (u_4.1), .int (u_4.2.1), .int (u_4.2.2), .int (nI (dn9))])), (m1, .inl (cI G, 205, .inl (fun z9 => iI ((exS tx le i s9) z9)))), (m2, .inl (cI G, 1230, .inl (fun z9 => iI (hi z9)))), (m3, .inl (cI G, 410, .inl (fun z9 => iI (sl z9)))), (m4, .inl (cI G, 80, .inl (fun z9 => nI (tx z9)))), (m5, .inl (cI G, 128, .inl (fun z9 => iI (u_37 z9))))]) := hD
            refine topE (v' := nI (exR tx le i s9)) (q_38) ?_
            refine lv_if_eq (tgt := 49) hx hb dX9_goesThrough_42 (by decide) (fun c_40 => ?_) (fun c_40 => ?_)
            · have f_41 : ((exR tx le i s9 : Nat) : Int) = (0 : Int) := (c_eq (nI_toInt (n := exR tx le i s9) (by omega)) rfl).mp c_40
              refine lv_iconst (v := nI (0)) hx hb dX9_goesThrough_49 (by decide) ?_
              refine lv_istore_n (lv' := [(2, .int (nI (0))), (0, .ref mh), (1, .int (nI (1))), (3, .int (nI (1)))]) hx hb dX9_goesThrough_50 rfl hl (by decide) rfl (fun ls hl => ?_)
              replace hgb := hgb (by omega)
              refine lv_aload_n hx hb dX9_goesThrough_51 rfl (lv_at hl 1 rfl) ?_
              refine lv_dup hx hb dX9_goesThrough_52 rfl ?_
              refine va_get (D := gD G) (cl := vwCl) (tys := tyl G) (ci := 8) (v := .int (nI (dn9))) (C := RX9) (T := TX9) (N := 15) hx hb hts (by decide +kernel) hown hC.K hP 0 rfl rfl 14 (by decide) (hts (.fieldLink RX9 149 "MotionPostModel" "done" "I") (by decide +kernel)) (fun _ h9 => h9) rfl dX9_goesThrough_53 ?_
              refine lv_iload_n hx hb dX9_goesThrough_56 rfl (lv_at hl 0 rfl) ?_
              refine lv_if_eq (tgt := 64) hx hb dX9_goesThrough_57 (by decide) (fun c_42 => ?_) (fun c_42 => ?_)
              · have f_43 : (0 : Int) = (0 : Int) := (c_eq (nI_toInt (n := 0) (by omega)) rfl).mp c_42
                refine lv_iconst (v := nI (0)) hx hb dX9_goesThrough_64 (by decide) ?_
                refine gAdd (z := nI (dn9 + 0)) hx hb dX9_goesThrough_65 (nI_add _ _) ?_
                refine va_put (D := gD G) (cl := vwCl) (tys := tyl G) (ci := 8) (v := .int (nI (dn9 + 0))) (ty := .int) (C := RX9) (T := TX9) (N := 15) hx hb hts (by decide +kernel) tyX9 tyX9_ok nmX9 hown hC.K hP hD hS 0 rfl rfl 14 (by decide) (hts (.fieldLink RX9 149 "MotionPostModel" "done" "I") (by decide +kernel)) (fun _ h9 => h9) rfl (by decide +kernel) (rfl) rfl (Nat.le_of_ble_eq_true rfl) dX9_goesThrough_66 (fun H locs hP hD hS => ?_)
                have hP : PP G ([(mh, .inr (8, [.int (th), .ref m1, .ref m2, .int (nI (kn)), .ref m3, .int (nI (ke)), .ref m4, .int (nI (le)), .ref m5, .int (nI (ceP tx le i)), .int (nI (0)), .int (u_4.1), .int (u_4.2.1), .int (u_4.2.2), .int (nI (dn9 + 0))])), (m1, .inl (cI G, 205, .inl (fun z9 => iI ((exS tx le i s9) z9)))), (m2, .inl (cI G, 1230, .inl (fun z9 => iI (hi z9)))), (m3, .inl (cI G, 410, .inl (fun z9 => iI (sl z9)))), (m4, .inl (cI G, 80, .inl (fun z9 => nI (tx z9)))), (m5, .inl (cI G, 128, .inl (fun z9 => iI (u_37 z9))))]) H := hP
                have hD : va_D A ([(mh, .inr (8, [.int (th), .ref m1, .ref m2, .int (nI (kn)), .ref m3, .int (nI (ke)), .ref m4, .int (nI (le)), .ref m5, .int (nI (ceP tx le i)), .int (nI (0)), .int (u_4.1), .int (u_4.2.1), .int (u_4.2.2), .int (nI (dn9 + 0))])), (m1, .inl (cI G, 205, .inl (fun z9 => iI ((exS tx le i s9) z9)))), (m2, .inl (cI G, 1230, .inl (fun z9 => iI (hi z9)))), (m3, .inl (cI G, 410, .inl (fun z9 => iI (sl z9)))), (m4, .inl (cI G, 80, .inl (fun z9 => nI (tx z9)))), (m5, .inl (cI G, 128, .inl (fun z9 => iI (u_37 z9))))]) := hD
                refine lv_aload_n hx hb dX9_goesThrough_69 rfl (lv_at hl 1 rfl) ?_
                refine va_get (D := gD G) (cl := vwCl) (tys := tyl G) (ci := 8) (v := .int (nI (0))) (C := RX9) (T := TX9) (N := 15) hx hb hts (by decide +kernel) hown hC.K hP 0 rfl rfl 10 (by decide) (hts (.fieldLink RX9 127 "MotionPostModel" "isWrong" "Z") (by decide +kernel)) (fun _ h9 => h9) rfl dX9_goesThrough_70 ?_
                refine lv_if_ne (tgt := 91) hx hb dX9_goesThrough_73 (by decide) (fun c_44 => ?_) (fun c_44 => ?_)
                · have f_45 : ¬ (0 : Int) = (0 : Int) := fun z => c_44 ((c_eq (nI_toInt (n := 0) (by omega)) rfl).mpr z)
                  exfalso; omega
                · have f_46 : (0 : Int) = (0 : Int) := (c_eq (nI_toInt (n := 0) (by omega)) rfl).mp c_44
                  refine lv_aload_n hx hb dX9_goesThrough_76 rfl (lv_at hl 1 rfl) ?_
                  refine va_get (D := gD G) (cl := vwCl) (tys := tyl G) (ci := 8) (v := .int (nI (ceP tx le i))) (C := RX9) (T := TX9) (N := 15) hx hb hts (by decide +kernel) hown hC.K hP 0 rfl rfl 9 (by decide) (hts (.fieldLink RX9 131 "MotionPostModel" "spot" "I") (by decide +kernel)) (fun _ h9 => h9) rfl dX9_goesThrough_77 ?_
                  refine lv_aload_n hx hb dX9_goesThrough_80 rfl (lv_at hl 1 rfl) ?_
                  refine va_get (D := gD G) (cl := vwCl) (tys := tyl G) (ci := 8) (v := .int (nI (le))) (C := RX9) (T := TX9) (N := 15) hx hb hts (by decide +kernel) hown hC.K hP 0 rfl rfl 7 (by decide) (hts (.fieldLink RX9 124 "MotionPostModel" "length" "I") (by decide +kernel)) (fun _ h9 => h9) rfl dX9_goesThrough_81 ?_
                  refine lv_icmp_ge (tgt := 91) hx hb dX9_goesThrough_84 (by decide) (fun c_47 => ?_) (fun c_47 => ?_)
                  · have f_48 : ((le : Nat) : Int) ≤ ((ceP tx le i : Nat) : Int) := (c_le (nI_toInt (n := le) (by omega)) (nI_toInt (n := ceP tx le i) (by omega))).mp c_47
                    refine lv_iconst (v := nI (0)) hx hb dX9_goesThrough_91 (by decide) ?_
                    refine lv_istore_n (lv' := [(3, .int (nI (0))), (2, .int (nI (0))), (0, .ref mh), (1, .int (nI (1)))]) hx hb dX9_goesThrough_92 rfl hl (by decide) rfl (fun ls hl => ?_)
                    refine lv_iload_n hx hb dX9_goesThrough_93 rfl (lv_at hl 0 rfl) ?_
                    refine lv_if_eq (tgt := 19) hx hb dX9_goesThrough_94 (by decide) (fun c_49 => ?_) (fun c_49 => ?_)
                    · have f_50 : (0 : Int) = (0 : Int) := (c_eq (nI_toInt (n := 0) (by omega)) rfl).mp c_49
                      refine lv_iload_n hx hb dX9_goesThrough_19 rfl (lv_at hl 0 rfl) ?_
                      refine lv_if_eq (tgt := 123) hx hb dX9_goesThrough_20 (by decide) (fun c_51 => ?_) (fun c_51 => ?_)
                      · have f_52 : (0 : Int) = (0 : Int) := (c_eq (nI_toInt (n := 0) (by omega)) rfl).mp c_51
                        have hres : ((exS tx le i s9), (dn9 + 0)) = rC tx le (le + 1) 0 ss 0 := hgb
                        have e1 := congrArg Prod.fst hres
                        have e2 := congrArg Prod.snd hres
                        simp only at e1 e2
                        rw [e1, e2] at hP
                        exact xMv (G := G) (post := (fun (u : (Nat → Int) × Nat × Int32 × Int32 × Int32) => True)) (w1 := (fun (u : (Nat → Int) × Nat × Int32 × Int32 × Int32) => [(mh, .inr (8, [.int (th), .ref m1, .ref m2, .int (nI (kn)), .ref m3, .int (nI (ke)), .ref m4, .int (nI (le)), .ref m5, .int (nI (u.2.1)), .int (nI (0)), .int (u.2.2.1), .int (u.2.2.2.1), .int (u.2.2.2.2), .int (nI ((rC tx le (le + 1) 0 ss 0).2))])), (m1, .inl (cI G, 205, .inl (fun z9 => iI (((rC tx le (le + 1) 0 ss 0).1) z9)))), (m2, .inl (cI G, 1230, .inl (fun z9 => iI (hi z9)))), (m3, .inl (cI G, 410, .inl (fun z9 => iI (sl z9)))), (m4, .inl (cI G, 80, .inl (fun z9 => nI (tx z9)))), (m5, .inl (cI G, 128, .inl (fun z9 => iI (u.1 z9))))])) (((u_37), (ceP tx le i), u_4.1, u_4.2.1, u_4.2.2)) hx hb hr hlocks hP hS (by exact trivial) dX9_goesThrough_123
                      · have f_53 : ¬ (0 : Int) = (0 : Int) := fun z => c_51 ((c_eq (nI_toInt (n := 0) (by omega)) rfl).mpr z)
                        exfalso; omega
                    · have f_54 : ¬ (0 : Int) = (0 : Int) := fun z => c_49 ((c_eq (nI_toInt (n := 0) (by omega)) rfl).mpr z)
                      exfalso; omega
                  · have f_55 : ¬ ((le : Nat) : Int) ≤ ((ceP tx le i : Nat) : Int) := fun z => c_47 ((c_le (nI_toInt (n := le) (by omega)) (nI_toInt (n := ceP tx le i) (by omega))).mpr z)
                    refine lv_iconst (v := nI (1)) hx hb dX9_goesThrough_87 (by decide) ?_
                    refine lv_goto (tgt := 92) hx hb dX9_goesThrough_88 (by decide) ?_
                    refine lv_istore_n (lv' := [(3, .int (nI (1))), (2, .int (nI (0))), (0, .ref mh), (1, .int (nI (1)))]) hx hb dX9_goesThrough_92 rfl hl (by decide) rfl (fun ls hl => ?_)
                    refine lv_iload_n hx hb dX9_goesThrough_93 rfl (lv_at hl 0 rfl) ?_
                    refine lv_if_eq (tgt := 19) hx hb dX9_goesThrough_94 (by decide) (fun c_56 => ?_) (fun c_56 => ?_)
                    · have f_57 : (1 : Int) = (0 : Int) := (c_eq (nI_toInt (n := 1) (by omega)) rfl).mp c_56
                      exfalso; omega
                    · have f_58 : ¬ (1 : Int) = (0 : Int) := fun z => c_56 ((c_eq (nI_toInt (n := 1) (by omega)) rfl).mpr z)
                      have hsc : tx (ceP tx le i) = 59 := Classical.byContradiction fun z => er_ne _ ((semi_no hce.1 hce.2.2.1 hce.2.2.2 (by omega) z).symm.trans hok)
                      refine lv_aload_n hx hb dX9_goesThrough_97 rfl (lv_at hl 2 rfl) ?_
                      refine lv_bipush (v := nI (59)) hx hb dX9_goesThrough_98 (by decide) ?_
                      refine lv_bipush (v := nI (59)) hx hb dX9_goesThrough_100 (by decide) ?_
                      refine kMi (va_runV (As := [.int (nI (59)), .int (nI (59))]) (rest := []) ⟨hx, hb, hml, hown, hts⟩ (c_X9_takes_y mh m1 m2 m3 m4 m5 (exS tx le i s9) hi sl tx u_37 th kn ke le (ceP tx le i) u_4.1 u_4.2.1 u_4.2.2 (nI (dn9 + 0)) 59 59 (by first | assumption | omega) (by first | assumption | omega) (by omega) (by omega) (by omega) (hP.sub [0, 1, 2, 3, 4, 5] rfl) ((hD.sub [0, 1, 2, 3, 4, 5] (by decide) rfl).weaken (fun _ _ _ h => hLo _ h))) (cwV 2 hts gX9_goesThrough_X9_takes rfl rfl rfl (by decide +kernel) ⟨Nat.le_of_ble_eq_true rfl, Nat.le_of_ble_eq_true rfl⟩) (preV hC hS hLo hP (ci := 8) (q0 := 0) rfl rfl) rfl rfl hl.1 rfl (lv_room (Nat.le_of_ble_eq_true rfl)) dX9_goesThrough_102 ⟨Nat.zero_le _, Nat.zero_le _⟩) hP hD hS hA [0, 1, 2, 3, 4, 5] (by decide) rfl (fun _ => rfl) (fun r_61 u_59 H locs q_60 hP hD hS => ?_)
                      have hP : PP G ([(mh, .inr (8, [.int (th), .ref m1, .ref m2, .int (nI (kn)), .ref m3, .int (nI (ke)), .ref m4, .int (nI (le)), .ref m5, .int (nI ((ceP tx le i) + 1)), .int (nI (0)), .int (u_4.1), .int (u_4.2.1), .int (u_4.2.2), .int (nI (dn9 + 0))])), (m1, .inl (cI G, 205, .inl (fun z9 => iI ((exS tx le i s9) z9)))), (m2, .inl (cI G, 1230, .inl (fun z9 => iI (hi z9)))), (m3, .inl (cI G, 410, .inl (fun z9 => iI (sl z9)))), (m4, .inl (cI G, 80, .inl (fun z9 => nI (tx z9)))), (m5, .inl (cI G, 128, .inl (fun z9 => iI (u_37 z9))))]) H := hP
                      have hD : va_D A ([(mh, .inr (8, [.int (th), .ref m1, .ref m2, .int (nI (kn)), .ref m3, .int (nI (ke)), .ref m4, .int (nI (le)), .ref m5, .int (nI ((ceP tx le i) + 1)), .int (nI (0)), .int (u_4.1), .int (u_4.2.1), .int (u_4.2.2), .int (nI (dn9 + 0))])), (m1, .inl (cI G, 205, .inl (fun z9 => iI ((exS tx le i s9) z9)))), (m2, .inl (cI G, 1230, .inl (fun z9 => iI (hi z9)))), (m3, .inl (cI G, 410, .inl (fun z9 => iI (sl z9)))), (m4, .inl (cI G, 80, .inl (fun z9 => nI (tx z9)))), (m5, .inl (cI G, 128, .inl (fun z9 => iI (u_37 z9))))]) := hD
                      refine topE (v' := nI (tx (ceP tx le i))) (q_60) ?_
                      refine lv_istore (lv' := [(4, .int (nI (tx (ceP tx le i)))), (3, .int (nI (1))), (2, .int (nI (0))), (0, .ref mh), (1, .int (nI (1)))]) hx hb dX9_goesThrough_105 hl (by decide) rfl (fun ls hl => ?_)
                      refine lv_aload_n hx hb dX9_goesThrough_107 rfl (lv_at hl 3 rfl) ?_
                      refine va_get (D := gD G) (cl := vwCl) (tys := tyl G) (ci := 8) (v := .int (nI (0))) (C := RX9) (T := TX9) (N := 15) hx hb hts (by decide +kernel) hown hC.K hP 0 rfl rfl 10 (by decide) (hts (.fieldLink RX9 127 "MotionPostModel" "isWrong" "Z") (by decide +kernel)) (fun _ h9 => h9) rfl dX9_goesThrough_108 ?_
                      refine lv_if_ne (tgt := 118) hx hb dX9_goesThrough_111 (by decide) (fun c_62 => ?_) (fun c_62 => ?_)
                      · have f_63 : ¬ (0 : Int) = (0 : Int) := fun z => c_62 ((c_eq (nI_toInt (n := 0) (by omega)) rfl).mpr z)
                        exfalso; omega
                      · have f_64 : (0 : Int) = (0 : Int) := (c_eq (nI_toInt (n := 0) (by omega)) rfl).mp c_62
                        refine lv_iconst (v := nI (1)) hx hb dX9_goesThrough_114 (by decide) ?_
                        refine lv_goto (tgt := 119) hx hb dX9_goesThrough_115 (by decide) ?_
                        refine lv_istore_n (lv' := [(3, .int (nI (1))), (4, .int (nI (tx (ceP tx le i)))), (2, .int (nI (0))), (0, .ref mh), (1, .int (nI (1)))]) hx hb dX9_goesThrough_119 rfl hl (by decide) rfl (fun ls hl => ?_)
                        refine lv_goto (tgt := 19) hx hb dX9_goesThrough_120 (by decide) ?_
                        exact ih_19 (ceP tx le i + 1) (n - 1) 0 (dn9 + 0) (exS tx le i s9) (u_37) u_4.1 u_4.2.1 u_4.2.2 (by omega) (semi_ok hce.1 hce.2.2.1 (by omega) hsc).2 (semi_ok hce.1 hce.2.2.1 (by omega) hsc).1 (by omega) (Or.inr ⟨rfl, hgb⟩) (MR_ex hM) H locs ls hP hD hS (lv_sub hl [3, 4, 2, 0] ((lvc rfl (lvc rfl (lvc rfl (lvc rfl rfl))))))
              · have f_65 : ¬ (0 : Int) = (0 : Int) := fun z => c_42 ((c_eq (nI_toInt (n := 0) (by omega)) rfl).mpr z)
                exfalso; omega
            · have f_66 : ¬ ((exR tx le i s9 : Nat) : Int) = (0 : Int) := fun z => c_40 ((c_eq (nI_toInt (n := exR tx le i s9) (by omega)) rfl).mpr z)
              refine lv_iconst (v := nI (1)) hx hb dX9_goesThrough_45 (by decide) ?_
              refine lv_goto (tgt := 50) hx hb dX9_goesThrough_46 (by decide) ?_
              refine lv_istore_n (lv' := [(2, .int (nI (1))), (0, .ref mh), (1, .int (nI (1))), (3, .int (nI (1)))]) hx hb dX9_goesThrough_50 rfl hl (by decide) rfl (fun ls hl => ?_)
              replace hgc := hgc (by omega)
              refine lv_aload_n hx hb dX9_goesThrough_51 rfl (lv_at hl 1 rfl) ?_
              refine lv_dup hx hb dX9_goesThrough_52 rfl ?_
              refine va_get (D := gD G) (cl := vwCl) (tys := tyl G) (ci := 8) (v := .int (nI (dn9))) (C := RX9) (T := TX9) (N := 15) hx hb hts (by decide +kernel) hown hC.K hP 0 rfl rfl 14 (by decide) (hts (.fieldLink RX9 149 "MotionPostModel" "done" "I") (by decide +kernel)) (fun _ h9 => h9) rfl dX9_goesThrough_53 ?_
              refine lv_iload_n hx hb dX9_goesThrough_56 rfl (lv_at hl 0 rfl) ?_
              refine lv_if_eq (tgt := 64) hx hb dX9_goesThrough_57 (by decide) (fun c_67 => ?_) (fun c_67 => ?_)
              · have f_68 : (1 : Int) = (0 : Int) := (c_eq (nI_toInt (n := 1) (by omega)) rfl).mp c_67
                exfalso; omega
              · have f_69 : ¬ (1 : Int) = (0 : Int) := fun z => c_67 ((c_eq (nI_toInt (n := 1) (by omega)) rfl).mpr z)
                refine lv_iconst (v := nI (1)) hx hb dX9_goesThrough_60 (by decide) ?_
                refine lv_goto (tgt := 65) hx hb dX9_goesThrough_61 (by decide) ?_
                refine gAdd (z := nI (dn9 + 1)) hx hb dX9_goesThrough_65 (nI_add _ _) ?_
                refine va_put (D := gD G) (cl := vwCl) (tys := tyl G) (ci := 8) (v := .int (nI (dn9 + 1))) (ty := .int) (C := RX9) (T := TX9) (N := 15) hx hb hts (by decide +kernel) tyX9 tyX9_ok nmX9 hown hC.K hP hD hS 0 rfl rfl 14 (by decide) (hts (.fieldLink RX9 149 "MotionPostModel" "done" "I") (by decide +kernel)) (fun _ h9 => h9) rfl (by decide +kernel) (rfl) rfl (Nat.le_of_ble_eq_true rfl) dX9_goesThrough_66 (fun H locs hP hD hS => ?_)
                have hP : PP G ([(mh, .inr (8, [.int (th), .ref m1, .ref m2, .int (nI (kn)), .ref m3, .int (nI (ke)), .ref m4, .int (nI (le)), .ref m5, .int (nI (ceP tx le i)), .int (nI (0)), .int (u_4.1), .int (u_4.2.1), .int (u_4.2.2), .int (nI (dn9 + 1))])), (m1, .inl (cI G, 205, .inl (fun z9 => iI ((exS tx le i s9) z9)))), (m2, .inl (cI G, 1230, .inl (fun z9 => iI (hi z9)))), (m3, .inl (cI G, 410, .inl (fun z9 => iI (sl z9)))), (m4, .inl (cI G, 80, .inl (fun z9 => nI (tx z9)))), (m5, .inl (cI G, 128, .inl (fun z9 => iI (u_37 z9))))]) H := hP
                have hD : va_D A ([(mh, .inr (8, [.int (th), .ref m1, .ref m2, .int (nI (kn)), .ref m3, .int (nI (ke)), .ref m4, .int (nI (le)), .ref m5, .int (nI (ceP tx le i)), .int (nI (0)), .int (u_4.1), .int (u_4.2.1), .int (u_4.2.2), .int (nI (dn9 + 1))])), (m1, .inl (cI G, 205, .inl (fun z9 => iI ((exS tx le i s9) z9)))), (m2, .inl (cI G, 1230, .inl (fun z9 => iI (hi z9)))), (m3, .inl (cI G, 410, .inl (fun z9 => iI (sl z9)))), (m4, .inl (cI G, 80, .inl (fun z9 => nI (tx z9)))), (m5, .inl (cI G, 128, .inl (fun z9 => iI (u_37 z9))))]) := hD
                refine lv_aload_n hx hb dX9_goesThrough_69 rfl (lv_at hl 1 rfl) ?_
                refine va_get (D := gD G) (cl := vwCl) (tys := tyl G) (ci := 8) (v := .int (nI (0))) (C := RX9) (T := TX9) (N := 15) hx hb hts (by decide +kernel) hown hC.K hP 0 rfl rfl 10 (by decide) (hts (.fieldLink RX9 127 "MotionPostModel" "isWrong" "Z") (by decide +kernel)) (fun _ h9 => h9) rfl dX9_goesThrough_70 ?_
                refine lv_if_ne (tgt := 91) hx hb dX9_goesThrough_73 (by decide) (fun c_70 => ?_) (fun c_70 => ?_)
                · have f_71 : ¬ (0 : Int) = (0 : Int) := fun z => c_70 ((c_eq (nI_toInt (n := 0) (by omega)) rfl).mpr z)
                  exfalso; omega
                · have f_72 : (0 : Int) = (0 : Int) := (c_eq (nI_toInt (n := 0) (by omega)) rfl).mp c_70
                  refine lv_aload_n hx hb dX9_goesThrough_76 rfl (lv_at hl 1 rfl) ?_
                  refine va_get (D := gD G) (cl := vwCl) (tys := tyl G) (ci := 8) (v := .int (nI (ceP tx le i))) (C := RX9) (T := TX9) (N := 15) hx hb hts (by decide +kernel) hown hC.K hP 0 rfl rfl 9 (by decide) (hts (.fieldLink RX9 131 "MotionPostModel" "spot" "I") (by decide +kernel)) (fun _ h9 => h9) rfl dX9_goesThrough_77 ?_
                  refine lv_aload_n hx hb dX9_goesThrough_80 rfl (lv_at hl 1 rfl) ?_
                  refine va_get (D := gD G) (cl := vwCl) (tys := tyl G) (ci := 8) (v := .int (nI (le))) (C := RX9) (T := TX9) (N := 15) hx hb hts (by decide +kernel) hown hC.K hP 0 rfl rfl 7 (by decide) (hts (.fieldLink RX9 124 "MotionPostModel" "length" "I") (by decide +kernel)) (fun _ h9 => h9) rfl dX9_goesThrough_81 ?_
                  refine lv_icmp_ge (tgt := 91) hx hb dX9_goesThrough_84 (by decide) (fun c_73 => ?_) (fun c_73 => ?_)
                  · have f_74 : ((le : Nat) : Int) ≤ ((ceP tx le i : Nat) : Int) := (c_le (nI_toInt (n := le) (by omega)) (nI_toInt (n := ceP tx le i) (by omega))).mp c_73
                    refine lv_iconst (v := nI (0)) hx hb dX9_goesThrough_91 (by decide) ?_
                    refine lv_istore_n (lv' := [(3, .int (nI (0))), (2, .int (nI (1))), (0, .ref mh), (1, .int (nI (1)))]) hx hb dX9_goesThrough_92 rfl hl (by decide) rfl (fun ls hl => ?_)
                    refine lv_iload_n hx hb dX9_goesThrough_93 rfl (lv_at hl 0 rfl) ?_
                    refine lv_if_eq (tgt := 19) hx hb dX9_goesThrough_94 (by decide) (fun c_75 => ?_) (fun c_75 => ?_)
                    · have f_76 : (0 : Int) = (0 : Int) := (c_eq (nI_toInt (n := 0) (by omega)) rfl).mp c_75
                      refine lv_iload_n hx hb dX9_goesThrough_19 rfl (lv_at hl 0 rfl) ?_
                      refine lv_if_eq (tgt := 123) hx hb dX9_goesThrough_20 (by decide) (fun c_77 => ?_) (fun c_77 => ?_)
                      · have f_78 : (0 : Int) = (0 : Int) := (c_eq (nI_toInt (n := 0) (by omega)) rfl).mp c_77
                        have hres : ((exS tx le i s9), (dn9 + 1)) = rC tx le (le + 1) 0 ss 0 := (hgc.trans (if_neg (by omega))).symm
                        have e1 := congrArg Prod.fst hres
                        have e2 := congrArg Prod.snd hres
                        simp only at e1 e2
                        rw [e1, e2] at hP
                        exact xMv (G := G) (post := (fun (u : (Nat → Int) × Nat × Int32 × Int32 × Int32) => True)) (w1 := (fun (u : (Nat → Int) × Nat × Int32 × Int32 × Int32) => [(mh, .inr (8, [.int (th), .ref m1, .ref m2, .int (nI (kn)), .ref m3, .int (nI (ke)), .ref m4, .int (nI (le)), .ref m5, .int (nI (u.2.1)), .int (nI (0)), .int (u.2.2.1), .int (u.2.2.2.1), .int (u.2.2.2.2), .int (nI ((rC tx le (le + 1) 0 ss 0).2))])), (m1, .inl (cI G, 205, .inl (fun z9 => iI (((rC tx le (le + 1) 0 ss 0).1) z9)))), (m2, .inl (cI G, 1230, .inl (fun z9 => iI (hi z9)))), (m3, .inl (cI G, 410, .inl (fun z9 => iI (sl z9)))), (m4, .inl (cI G, 80, .inl (fun z9 => nI (tx z9)))), (m5, .inl (cI G, 128, .inl (fun z9 => iI (u.1 z9))))])) (((u_37), (ceP tx le i), u_4.1, u_4.2.1, u_4.2.2)) hx hb hr hlocks hP hS (by exact trivial) dX9_goesThrough_123
                      · have f_79 : ¬ (0 : Int) = (0 : Int) := fun z => c_77 ((c_eq (nI_toInt (n := 0) (by omega)) rfl).mpr z)
                        exfalso; omega
                    · have f_80 : ¬ (0 : Int) = (0 : Int) := fun z => c_75 ((c_eq (nI_toInt (n := 0) (by omega)) rfl).mpr z)
                      exfalso; omega
                  · have f_81 : ¬ ((le : Nat) : Int) ≤ ((ceP tx le i : Nat) : Int) := fun z => c_73 ((c_le (nI_toInt (n := le) (by omega)) (nI_toInt (n := ceP tx le i) (by omega))).mpr z)
                    refine lv_iconst (v := nI (1)) hx hb dX9_goesThrough_87 (by decide) ?_
                    refine lv_goto (tgt := 92) hx hb dX9_goesThrough_88 (by decide) ?_
                    refine lv_istore_n (lv' := [(3, .int (nI (1))), (2, .int (nI (1))), (0, .ref mh), (1, .int (nI (1)))]) hx hb dX9_goesThrough_92 rfl hl (by decide) rfl (fun ls hl => ?_)
                    refine lv_iload_n hx hb dX9_goesThrough_93 rfl (lv_at hl 0 rfl) ?_
                    refine lv_if_eq (tgt := 19) hx hb dX9_goesThrough_94 (by decide) (fun c_82 => ?_) (fun c_82 => ?_)
                    · have f_83 : (1 : Int) = (0 : Int) := (c_eq (nI_toInt (n := 1) (by omega)) rfl).mp c_82
                      exfalso; omega
                    · have f_84 : ¬ (1 : Int) = (0 : Int) := fun z => c_82 ((c_eq (nI_toInt (n := 1) (by omega)) rfl).mpr z)
                      have hsc : tx (ceP tx le i) = 59 := Classical.byContradiction fun z => er_ne _ ((semi_no hce.1 hce.2.2.1 hce.2.2.2 (by omega) z).symm.trans hok)
                      refine lv_aload_n hx hb dX9_goesThrough_97 rfl (lv_at hl 2 rfl) ?_
                      refine lv_bipush (v := nI (59)) hx hb dX9_goesThrough_98 (by decide) ?_
                      refine lv_bipush (v := nI (59)) hx hb dX9_goesThrough_100 (by decide) ?_
                      refine kMi (va_runV (As := [.int (nI (59)), .int (nI (59))]) (rest := []) ⟨hx, hb, hml, hown, hts⟩ (c_X9_takes_y mh m1 m2 m3 m4 m5 (exS tx le i s9) hi sl tx u_37 th kn ke le (ceP tx le i) u_4.1 u_4.2.1 u_4.2.2 (nI (dn9 + 1)) 59 59 (by first | assumption | omega) (by first | assumption | omega) (by omega) (by omega) (by omega) (hP.sub [0, 1, 2, 3, 4, 5] rfl) ((hD.sub [0, 1, 2, 3, 4, 5] (by decide) rfl).weaken (fun _ _ _ h => hLo _ h))) (cwV 2 hts gX9_goesThrough_X9_takes rfl rfl rfl (by decide +kernel) ⟨Nat.le_of_ble_eq_true rfl, Nat.le_of_ble_eq_true rfl⟩) (preV hC hS hLo hP (ci := 8) (q0 := 0) rfl rfl) rfl rfl hl.1 rfl (lv_room (Nat.le_of_ble_eq_true rfl)) dX9_goesThrough_102 ⟨Nat.zero_le _, Nat.zero_le _⟩) hP hD hS hA [0, 1, 2, 3, 4, 5] (by decide) rfl (fun _ => rfl) (fun r_87 u_85 H locs q_86 hP hD hS => ?_)
                      have hP : PP G ([(mh, .inr (8, [.int (th), .ref m1, .ref m2, .int (nI (kn)), .ref m3, .int (nI (ke)), .ref m4, .int (nI (le)), .ref m5, .int (nI ((ceP tx le i) + 1)), .int (nI (0)), .int (u_4.1), .int (u_4.2.1), .int (u_4.2.2), .int (nI (dn9 + 1))])), (m1, .inl (cI G, 205, .inl (fun z9 => iI ((exS tx le i s9) z9)))), (m2, .inl (cI G, 1230, .inl (fun z9 => iI (hi z9)))), (m3, .inl (cI G, 410, .inl (fun z9 => iI (sl z9)))), (m4, .inl (cI G, 80, .inl (fun z9 => nI (tx z9)))), (m5, .inl (cI G, 128, .inl (fun z9 => iI (u_37 z9))))]) H := hP
                      have hD : va_D A ([(mh, .inr (8, [.int (th), .ref m1, .ref m2, .int (nI (kn)), .ref m3, .int (nI (ke)), .ref m4, .int (nI (le)), .ref m5, .int (nI ((ceP tx le i) + 1)), .int (nI (0)), .int (u_4.1), .int (u_4.2.1), .int (u_4.2.2), .int (nI (dn9 + 1))])), (m1, .inl (cI G, 205, .inl (fun z9 => iI ((exS tx le i s9) z9)))), (m2, .inl (cI G, 1230, .inl (fun z9 => iI (hi z9)))), (m3, .inl (cI G, 410, .inl (fun z9 => iI (sl z9)))), (m4, .inl (cI G, 80, .inl (fun z9 => nI (tx z9)))), (m5, .inl (cI G, 128, .inl (fun z9 => iI (u_37 z9))))]) := hD
                      refine topE (v' := nI (tx (ceP tx le i))) (q_86) ?_
                      refine lv_istore (lv' := [(4, .int (nI (tx (ceP tx le i)))), (3, .int (nI (1))), (2, .int (nI (1))), (0, .ref mh), (1, .int (nI (1)))]) hx hb dX9_goesThrough_105 hl (by decide) rfl (fun ls hl => ?_)
                      refine lv_aload_n hx hb dX9_goesThrough_107 rfl (lv_at hl 3 rfl) ?_
                      refine va_get (D := gD G) (cl := vwCl) (tys := tyl G) (ci := 8) (v := .int (nI (0))) (C := RX9) (T := TX9) (N := 15) hx hb hts (by decide +kernel) hown hC.K hP 0 rfl rfl 10 (by decide) (hts (.fieldLink RX9 127 "MotionPostModel" "isWrong" "Z") (by decide +kernel)) (fun _ h9 => h9) rfl dX9_goesThrough_108 ?_
                      refine lv_if_ne (tgt := 118) hx hb dX9_goesThrough_111 (by decide) (fun c_88 => ?_) (fun c_88 => ?_)
                      · have f_89 : ¬ (0 : Int) = (0 : Int) := fun z => c_88 ((c_eq (nI_toInt (n := 0) (by omega)) rfl).mpr z)
                        exfalso; omega
                      · have f_90 : (0 : Int) = (0 : Int) := (c_eq (nI_toInt (n := 0) (by omega)) rfl).mp c_88
                        refine lv_iconst (v := nI (1)) hx hb dX9_goesThrough_114 (by decide) ?_
                        refine lv_goto (tgt := 119) hx hb dX9_goesThrough_115 (by decide) ?_
                        refine lv_istore_n (lv' := [(3, .int (nI (1))), (4, .int (nI (tx (ceP tx le i)))), (2, .int (nI (1))), (0, .ref mh), (1, .int (nI (1)))]) hx hb dX9_goesThrough_119 rfl hl (by decide) rfl (fun ls hl => ?_)
                        refine lv_goto (tgt := 19) hx hb dX9_goesThrough_120 (by decide) ?_
                        exact ih_19 (ceP tx le i + 1) (n - 1) 1 (dn9 + 1) (exS tx le i s9) (u_37) u_4.1 u_4.2.1 u_4.2.2 (by omega) (semi_ok hce.1 hce.2.2.1 (by omega) hsc).2 (semi_ok hce.1 hce.2.2.1 (by omega) hsc).1 (by omega) (Or.inl ⟨rfl, (hgc.trans (if_pos (by omega))).symm⟩) (MR_ex hM) H locs ls hP hD hS (lv_sub hl [3, 4, 2, 0] ((lvc rfl (lvc rfl (lvc rfl (lvc rfl rfl))))))
  exact L_19 (_ + 1) 0 (le + 1) 1 0 ss ne si on tw (Nat.lt_succ_self _) rfl (HF_0 tx le) (by omega) (Or.inl ⟨rfl, rfl⟩) hMR H locs ls hP hD hS (lv_sub hl [2, 3, 1, 0] (lvc rfl (lvc rfl (lvc rfl (lvc rfl rfl)))))
