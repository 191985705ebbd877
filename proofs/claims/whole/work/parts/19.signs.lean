theorem l2i_N {x : Nat} (h : x < 256) : (lN x).toInt32 = nI x := by
  have key : ∀ x, x < 256 → (lN x).toInt32 = nI x := by decide +kernel
  exact key x h
theorem i2c_N {x : Nat} (h : x < 256) : ((nI x).toUInt32 % 65536).toInt32 = nI x := by
  have key : ∀ x, x < 256 → ((nI x).toUInt32 % 65536).toInt32 = nI x := by decide +kernel
  exact key x h
theorem upc_N (f : Nat → Nat) (k : Nat) {v : Nat} (h : v < 256) : upd (fun j => nI (f j)) k (vp_nar .char (nI v)) = fun j => nI (va_up f k v j) := by
  have e : vp_nar .char (nI v) = nI v := by unfold vp_nar; rw [(pk_charN (by omega)).1]
  rw [e]; exact upn_N f k v
/-- the j-th of k signs, and the row with the first j of them -/
def sgA (u k j : Nat) : Nat := u / 2 ^ (8 * (k - 1 - j)) % 256
def adT (tn : Nat → Nat) (ln u k : Nat) : Nat → Nat → Nat
  | 0 => tn
  | j + 1 => va_up (adT tn ln u k j) (ln + j) (sgA u k j)

set_option maxHeartbeats 4000000 in
set_option maxRecDepth 100000 in
theorem c_X1_countSigns {l : Launch} {G : GT} {H0 : Heap} (cu : Nat) (hu : cu < 2 ^ 64) : Met l yX1_countSigns wsX1_countSigns ({ frames := 0, cells := 0, slots := 0, locals := 0 } : Room) (pcG G [.long (lN cu)] H0) (qPi (nI (CS cu)) H0) 0 0 noF := by
  refine enter (cc := cX1_countSigns) (maxL := 5) (ret := some .int) (own := RX1) (lv := [(0, .long (lN cu))]) (by decide) rfl rfl rfl (Nat.le_of_ble_eq_true rfl) ?_
  intro pg ev s m below meth c hx hb hr hts hown hlocks hml hnm hH hC ls hl
  subst hH
  have hLo : ∀ q, noF q → lo G q := fun _ h => h.elim
  have hS : va_S noF s.heap s.heap [] := va_S.rf
  generalize ([] : List Loc) = locs at hS ⊢
  refine lv_lload_n hx hb dX1_countSigns_0 rfl (lv_at hl 0 rfl) ?_
  refine lv_lstore_n (lv' := [(2, .long (lN cu)), (0, .long (lN cu))]) hx hb dX1_countSigns_1 rfl hl (by decide) rfl (fun ls hl => ?_)
  refine lv_iconst (v := nI (0)) hx hb dX1_countSigns_2 (by decide) ?_
  refine lv_istore (lv' := [(4, .int (nI (0))), (2, .long (lN cu)), (0, .long (lN cu))]) hx hb dX1_countSigns_3 hl (by decide) rfl (fun ls hl => ?_)
  have L_5 : ∀ (n_5 : Nat) (i r : Nat), 8 - i < n_5 → (i ≤ 8) → (r < 2 ^ 64) → (CS cu = csF (8 - i) r i) → ∀ (locs : List Loc) (ls : Array Slot), va_S noF s.heap s.heap locs → lv_has ls 5 [(0, .long (lN cu)), (2, .long (lN r)), (4, .int (nI (i)))] → W pg l ev ({ frames := 0, cells := 0, slots := 0, locals := 0 } : Room) s m (([.long (lN cu)] : List Value).toArray) below meth c s.heap locs 0 0 (MQ below (qPi (nI (CS cu)) s.heap) (([.long (lN cu)] : List Value).toArray) s 0 0 noF) (F0 m 5 ls []) := by
    intro n_5
    induction n_5 with
    | zero => intro i r hn; exact absurd hn (Nat.not_lt_zero _)
    | succ n_5 ih_5 =>
      intro i r hn_5 hi9 hr9 hcs locs ls hS hl
      refine lv_iload hx hb dX1_countSigns_5 (lv_at hl 2 rfl) ?_
      refine lv_bipush (v := nI (8)) hx hb dX1_countSigns_7 (by decide) ?_
      refine lv_icmp_ge (tgt := 59) hx hb dX1_countSigns_9 (by decide) (fun c_1 => ?_) (fun c_1 => ?_)
      · have f_2 : (8 : Int) ≤ ((i : Nat) : Int) := (c_le (nI_toInt (n := 8) (by omega)) (nI_toInt (n := i) (by omega))).mp c_1
        refine lv_lload_n hx hb dX1_countSigns_59 rfl (lv_at hl 1 rfl) ?_
        refine lv_lconst (v := 0) hx hb dX1_countSigns_60 (by decide) ?_
        refine W.lcmp hx hb dX1_countSigns_61 ?_
        refine topE (v' := iI (lc0 r)) (lg_l0 (by assumption)) ?_
        have hz4 := lc0_in r
        refine lv_if_ne (tgt := 70) hx hb dX1_countSigns_62 (by decide) (fun c_3 => ?_) (fun c_3 => ?_)
        · have f_4 : ¬ (lc0 r) = (0 : Int) := fun z => c_3 ((c_eq (iI_toInt (by omega) (by omega)) rfl).mpr z)
          refine lv_iconst (v := nI (0)) hx hb dX1_countSigns_70 (by decide) ?_
          exact xPi hx hb hr hlocks hS (by exact congrArg nI (hcs.trans ((csF_z (Or.inr (by omega))).trans (if_neg (fun z => f_4 (lc0_z.mpr z))))).symm) (by exact rfl) dX1_countSigns_71
        · have f_5 : (lc0 r) = (0 : Int) := (c_eq (iI_toInt (by omega) (by omega)) rfl).mp c_3
          refine lv_iload hx hb dX1_countSigns_65 (lv_at hl 2 rfl) ?_
          refine lv_goto (tgt := 71) hx hb dX1_countSigns_67 (by decide) ?_
          exact xPi hx hb hr hlocks hS (by exact congrArg nI (hcs.trans ((csF_z (Or.inr (by omega))).trans (if_pos (lc0_z.mp f_5)))).symm) (by exact rfl) dX1_countSigns_71
      · have f_6 : ¬ (8 : Int) ≤ ((i : Nat) : Int) := fun z => c_1 ((c_le (nI_toInt (n := 8) (by omega)) (nI_toInt (n := i) (by omega))).mpr z)
        refine lv_lload_n hx hb dX1_countSigns_12 rfl (lv_at hl 1 rfl) ?_
        refine lv_ldc2 (v := 255) hx hb hown (hts (.constantLong RX1 19 (255)) (by decide +kernel)) dX1_countSigns_13 ?_
        refine g_land (z := lN (r % 256)) hx hb dX1_countSigns_16 (la255 (by assumption)) ?_
        refine lv_lconst (v := 0) hx hb dX1_countSigns_17 (by decide) ?_
        refine W.lcmp hx hb dX1_countSigns_18 ?_
        refine topE (v' := iI (lc0 (r % 256))) (lg_l0 (by omega)) ?_
        have hz1 := lc0_in (r % 256)
        refine lv_if_eq (tgt := 59) hx hb dX1_countSigns_19 (by decide) (fun c_7 => ?_) (fun c_7 => ?_)
        · have f_8 : (lc0 (r % 256)) = (0 : Int) := (c_eq (iI_toInt (by omega) (by omega)) rfl).mp c_7
          refine lv_lload_n hx hb dX1_countSigns_59 rfl (lv_at hl 1 rfl) ?_
          refine lv_lconst (v := 0) hx hb dX1_countSigns_60 (by decide) ?_
          refine W.lcmp hx hb dX1_countSigns_61 ?_
          refine topE (v' := iI (lc0 r)) (lg_l0 (by assumption)) ?_
          have hz4 := lc0_in r
          refine lv_if_ne (tgt := 70) hx hb dX1_countSigns_62 (by decide) (fun c_9 => ?_) (fun c_9 => ?_)
          · have f_10 : ¬ (lc0 r) = (0 : Int) := fun z => c_9 ((c_eq (iI_toInt (by omega) (by omega)) rfl).mpr z)
            refine lv_iconst (v := nI (0)) hx hb dX1_countSigns_70 (by decide) ?_
            exact xPi hx hb hr hlocks hS (by exact congrArg nI (hcs.trans ((csF_z (Or.inl (lc0_z.mp f_8))).trans (if_neg (fun z => f_10 (lc0_z.mpr z))))).symm) (by exact rfl) dX1_countSigns_71
          · have f_11 : (lc0 r) = (0 : Int) := (c_eq (iI_toInt (by omega) (by omega)) rfl).mp c_9
            refine lv_iload hx hb dX1_countSigns_65 (lv_at hl 2 rfl) ?_
            refine lv_goto (tgt := 71) hx hb dX1_countSigns_67 (by decide) ?_
            exact xPi hx hb hr hlocks hS (by exact congrArg nI (hcs.trans ((csF_z (Or.inl (lc0_z.mp f_8))).trans (if_pos (lc0_z.mp f_11)))).symm) (by exact rfl) dX1_countSigns_71
        · have f_12 : ¬ (lc0 (r % 256)) = (0 : Int) := fun z => c_7 ((c_eq (iI_toInt (by omega) (by omega)) rfl).mpr z)
          refine lv_lload_n hx hb dX1_countSigns_22 rfl (lv_at hl 1 rfl) ?_
          refine lv_ldc2 (v := 255) hx hb hown (hts (.constantLong RX1 19 (255)) (by decide +kernel)) dX1_countSigns_23 ?_
          refine g_land (z := lN (r % 256)) hx hb dX1_countSigns_26 (la255 (by assumption)) ?_
          refine lv_ldc2 (v := 33) hx hb hown (hts (.constantLong RX1 21 (33)) (by decide +kernel)) dX1_countSigns_27 ?_
          refine W.lcmp hx hb dX1_countSigns_30 ?_
          refine topE (v' := iI (lcI (r % 256) 33)) (lg_lN (b := 33) (by omega) (by omega)) ?_
          have hz2 := lcI_in (r % 256) 33
          refine lv_if_lt (tgt := 46) hx hb dX1_countSigns_31 (by decide) (fun c_13 => ?_) (fun c_13 => ?_)
          · have f_14 : (lcI (r % 256) 33) < (0 : Int) := (c_lt (iI_toInt (by omega) (by omega)) rfl).mp c_13
            refine lv_iconst (v := nI (0)) hx hb dX1_countSigns_46 (by decide) ?_
            exact xPi hx hb hr hlocks hS (by exact congrArg nI (hcs.trans (csF_b (by omega) (fun z => f_12 (lc0_z.mpr z)) (Or.inl (lcI_lt.mp f_14)))).symm) (by exact rfl) dX1_countSigns_47
          · have f_15 : ¬ (lcI (r % 256) 33) < (0 : Int) := fun z => c_13 ((c_lt (iI_toInt (by omega) (by omega)) rfl).mpr z)
            refine lv_lload_n hx hb dX1_countSigns_34 rfl (lv_at hl 1 rfl) ?_
            refine lv_ldc2 (v := 255) hx hb hown (hts (.constantLong RX1 19 (255)) (by decide +kernel)) dX1_countSigns_35 ?_
            refine g_land (z := lN (r % 256)) hx hb dX1_countSigns_38 (la255 (by assumption)) ?_
            refine lv_ldc2 (v := 126) hx hb hown (hts (.constantLong RX1 23 (126)) (by decide +kernel)) dX1_countSigns_39 ?_
            refine W.lcmp hx hb dX1_countSigns_42 ?_
            refine topE (v' := iI (lcI (r % 256) 126)) (lg_lN (b := 126) (by omega) (by omega)) ?_
            have hz3 := lcI_in (r % 256) 126
            refine lv_if_le (tgt := 48) hx hb dX1_countSigns_43 (by decide) (fun c_16 => ?_) (fun c_16 => ?_)
            · have f_17 : (lcI (r % 256) 126) ≤ (0 : Int) := (c_le (iI_toInt (by omega) (by omega)) rfl).mp c_16
              refine lv_lload_n hx hb dX1_countSigns_48 rfl (lv_at hl 1 rfl) ?_
              refine lv_bipush (v := nI (8)) hx hb dX1_countSigns_49 (by decide) ?_
              refine lv_lushr (v := lN (r / 256)) hx hb dX1_countSigns_51 (wb_shr (k := 8) (by assumption) (by omega)) ?_
              refine lv_lstore_n (lv' := [(2, .long (lN (r / 256))), (0, .long (lN cu)), (4, .int (nI (i)))]) hx hb dX1_countSigns_52 rfl hl (by decide) rfl (fun ls hl => ?_)
              refine lv_iinc (v := nI (i + 1)) (lv' := [(4, .int (nI (i + 1))), (2, .long (lN (r / 256))), (0, .long (lN cu))]) hx hb dX1_countSigns_53 hl (k := 2) rfl (inc_p i 1) (by decide) rfl (fun ls hl => ?_)
              refine lv_goto (tgt := 5) hx hb dX1_countSigns_56 (by decide) ?_
              exact ih_5 (i + 1) (r / 256) (by omega) (by omega) (by omega) (hcs.trans (csF_s (by omega) (fun z => f_12 (lc0_z.mpr z)) (fun z => z.elim (fun y => f_15 (lcI_lt.mpr y)) (fun y => absurd (lcI_le.mp f_17) (Nat.not_le_of_lt y))))) locs ls hS (lv_sub hl [2, 1, 0] ((lvc rfl (lvc rfl (lvc rfl rfl)))))
            · have f_18 : ¬ (lcI (r % 256) 126) ≤ (0 : Int) := fun z => c_16 ((c_le (iI_toInt (by omega) (by omega)) rfl).mpr z)
              refine lv_iconst (v := nI (0)) hx hb dX1_countSigns_46 (by decide) ?_
              exact xPi hx hb hr hlocks hS (by exact congrArg nI (hcs.trans (csF_b (by omega) (fun z => f_12 (lc0_z.mpr z)) (Or.inr (Nat.lt_of_not_le (fun z => f_18 (lcI_le.mpr z)))))).symm) (by exact rfl) dX1_countSigns_47
  exact L_5 (8 + 1) 0 cu (Nat.lt_succ_self _) (by omega) hu rfl locs ls hS (lv_sub hl [2, 1, 0] (lvc rfl (lvc rfl (lvc rfl rfl))))

set_option maxHeartbeats 4000000 in
set_option maxRecDepth 100000 in
theorem c_X1_add {l : Launch} {G : GT} {H0 : Heap} (th t1 : Nat) (tn : Nat → Nat) (ln : Nat) (cu k : Nat) (hu : cu < 2 ^ 64) (hk : k ≤ 8) (hlk : ln + k ≤ 80) (hP0 : PP G ([(th, .inr (1, [.ref t1, .int (nI (ln))])), (t1, .inl (cC G, 80, .inl (fun z9 => nI (tn z9))))]) H0) (hB0 : va_D (lo G) ([(th, .inr (1, [.ref t1, .int (nI (ln))])), (t1, .inl (cC G, 80, .inl (fun z9 => nI (tn z9))))])) : Met l yX1_add wsX1_add ({ frames := 0, cells := 0, slots := 0, locals := 0 } : Room) (pcG G [.ref th, .long (lN cu), .int (nI (k))] H0) (qMv G (fun (u : Unit) => u = ()) (fun (u : Unit) => [(th, .inr (1, [.ref t1, .int (nI (ln + k))])), (t1, .inl (cC G, 80, .inl (fun z9 => nI ((adT tn ln cu k k) z9))))]) ([(th, .inr (1, [.ref t1, .int (nI (ln))])), (t1, .inl (cC G, 80, .inl (fun z9 => nI (tn z9))))]) H0) 0 0 (va_A ([(th, .inr (1, [.ref t1, .int (nI (ln))])), (t1, .inl (cC G, 80, .inl (fun z9 => nI (tn z9))))]) H0.size) := by
  refine enter (cc := cX1_add) (maxL := 5) (ret := none) (own := RX1) (lv := [(0, .ref th), (1, .long (lN cu)), (3, .int (nI (k)))]) (by decide) rfl rfl rfl (Nat.le_of_ble_eq_true rfl) ?_
  intro pg ev s m below meth c hx hb hr hts hown hlocks hml hnm hH hC ls hl
  subst hH
  have hLo := va_freeB hB0 hC.2.2.2.1
  have hD := hB0.self (sz := s.heap.size)
  have hS : va_S (va_A ([(th, .inr (1, [.ref t1, .int (nI (ln))])), (t1, .inl (cC G, 80, .inl (fun z9 => nI (tn z9))))]) s.heap.size) s.heap s.heap [] := va_S.rf
  unfold qMv
  generalize hAe : va_A ([(th, .inr (1, [.ref t1, .int (nI (ln))])), (t1, .inl (cC G, 80, .inl (fun z9 => nI (tn z9))))]) s.heap.size = A at hD hLo hS ⊢
  have hA : ∀ q, s.heap.size ≤ q → A q := fun q h => by rw [← hAe]; exact Or.inr h
  generalize ([] : List Loc) = locs at hS ⊢
  have hP := hP0
  refine lv_iload_n hx hb dX1_add_0 rfl (lv_at hl 2 rfl) ?_
  refine lv_iconst (v := nI (1)) hx hb dX1_add_1 (by decide) ?_
  refine gSub (z := iI (((k : Nat) : Int) - (1 : Int))) hx hb dX1_add_2 (z_sub (nI_i (k)) (nI_i (1))) ?_
  refine lv_istore (lv' := [(4, .int (iI (((k : Nat) : Int) - (1 : Int)))), (0, .ref th), (1, .long (lN cu)), (3, .int (nI (k)))]) hx hb dX1_add_3 hl (by decide) rfl (fun ls hl => ?_)
  have L_5 : ∀ (n_5 : Nat) (j : Nat), k - j < n_5 → (j ≤ k) → ∀ (H : Heap) (locs : List Loc) (ls : Array Slot), PP G ([(th, .inr (1, [.ref t1, .int (nI (ln + j))])), (t1, .inl (cC G, 80, .inl (fun z9 => nI ((adT tn ln cu k j) z9))))]) H → va_D A ([(th, .inr (1, [.ref t1, .int (nI (ln + j))])), (t1, .inl (cC G, 80, .inl (fun z9 => nI ((adT tn ln cu k j) z9))))]) → va_S A s.heap H locs → lv_has ls 5 [(0, .ref th), (1, .long (lN cu)), (3, .int (nI (k))), (4, .int (iI (((k - j : Nat) : Int) - 1)))] → W pg l ev ({ frames := 0, cells := 0, slots := 0, locals := 0 } : Room) s m (([.ref th, .long (lN cu), .int (nI (k))] : List Value).toArray) below meth c H locs 0 0 (MQ below (va_Qv (fun (u : Unit) => u = ()) (fun (u : Unit) t9 => PP G ([(th, .inr (1, [.ref t1, .int (nI (ln + k))])), (t1, .inl (cC G, 80, .inl (fun z9 => nI ((adT tn ln cu k k) z9))))]) t9.heap) A) (([.ref th, .long (lN cu), .int (nI (k))] : List Value).toArray) s 0 0 A) (F0 m 5 ls []) := by
    intro n_5
    induction n_5 with
    | zero => intro j hn; exact absurd hn (Nat.not_lt_zero _)
    | succ n_5 ih_5 =>
      intro j hn_5 hj9 H locs ls hP hD hS hl
      refine lv_iload hx hb dX1_add_5 (lv_at hl 3 rfl) ?_
      refine lv_if_lt (tgt := 57) hx hb dX1_add_7 (by decide) (fun c_1 => ?_) (fun c_1 => ?_)
      · have f_2 : (((k - j : Nat) : Int) - 1) < (0 : Int) := (c_lt (iI_toInt (by omega) (by omega)) rfl).mp c_1
        have e_j : j = k := by omega
        replace e_j := e_j.symm
        subst e_j
        exact xMv (G := G) (post := (fun (u : Unit) => u = ())) (w1 := (fun (u : Unit) => [(th, .inr (1, [.ref t1, .int (nI (ln + k))])), (t1, .inl (cC G, 80, .inl (fun z9 => nI ((adT tn ln cu k k) z9))))])) (()) hx hb hr hlocks hP hS (by exact rfl) dX1_add_57
      · have f_3 : ¬ (((k - j : Nat) : Int) - 1) < (0 : Int) := fun z => c_1 ((c_lt (iI_toInt (by omega) (by omega)) rfl).mpr z)
        refine lv_aload_n hx hb dX1_add_10 rfl (lv_at hl 0 rfl) ?_
        refine va_get (D := gD G) (cl := vwCl) (tys := tyl G) (ci := 1) (v := .int (nI (ln + j))) (C := RX1) (T := TX1) (N := 2) hx hb hts (by decide +kernel) hown hC.K hP 0 rfl rfl 1 (by decide) (hts (.fieldLink RX1 15 "MotionPost$CommandText" "length" "I") (by decide +kernel)) (fun _ h9 => h9) rfl dX1_add_11 ?_
        refine lv_bipush (v := nI (80)) hx hb dX1_add_14 (by decide) ?_
        refine lv_icmp_ge (tgt := 51) hx hb dX1_add_16 (by decide) (fun c_4 => ?_) (fun c_4 => ?_)
        · have f_5 : (80 : Int) ≤ ((ln + j : Nat) : Int) := (c_le (nI_toInt (n := 80) (by omega)) (nI_toInt (n := ln + j) (by omega))).mp c_4
          exfalso; omega
        · have f_6 : ¬ (80 : Int) ≤ ((ln + j : Nat) : Int) := fun z => c_4 ((c_le (nI_toInt (n := 80) (by omega)) (nI_toInt (n := ln + j) (by omega))).mpr z)
          refine lv_aload_n hx hb dX1_add_19 rfl (lv_at hl 0 rfl) ?_
          refine va_get (D := gD G) (cl := vwCl) (tys := tyl G) (ci := 1) (v := .ref t1) (C := RX1) (T := TX1) (N := 2) hx hb hts (by decide +kernel) hown hC.K hP 0 rfl rfl 0 (by decide) (hts (.fieldLink RX1 9 "MotionPost$CommandText" "signs" "[C") (by decide +kernel)) (fun _ h9 => h9) rfl dX1_add_20 ?_
          refine lv_aload_n hx hb dX1_add_23 rfl (lv_at hl 0 rfl) ?_
          refine va_get (D := gD G) (cl := vwCl) (tys := tyl G) (ci := 1) (v := .int (nI (ln + j))) (C := RX1) (T := TX1) (N := 2) hx hb hts (by decide +kernel) hown hC.K hP 0 rfl rfl 1 (by decide) (hts (.fieldLink RX1 15 "MotionPost$CommandText" "length" "I") (by decide +kernel)) (fun _ h9 => h9) rfl dX1_add_24 ?_
          refine lv_lload_n hx hb dX1_add_27 rfl (lv_at hl 1 rfl) ?_
          refine lv_bipush (v := nI (8)) hx hb dX1_add_28 (by decide) ?_
          refine lv_iload hx hb dX1_add_30 (lv_at hl 3 rfl) ?_
          refine gMul (z := nI (8 * (k - 1 - j))) hx hb dX1_add_32 ((z_mul (nI_i 8) rfl).trans (by rw [nI_i]; congr 1; omega)) ?_
          refine lv_lushr (v := lN (cu / 2 ^ (8 * (k - 1 - j)))) hx hb dX1_add_33 (wb_shr hu (by omega)) ?_
          refine lv_ldc2 (v := 255) hx hb hown (hts (.constantLong RX1 19 (255)) (by decide +kernel)) dX1_add_34 ?_
          refine g_land (z := lN (sgA cu k j)) hx hb dX1_add_37 (la255 (Nat.lt_of_le_of_lt (Nat.div_le_self _ _) hu)) ?_
          refine lv_l2i (v := nI (sgA cu k j)) hx hb dX1_add_38 (l2i_N (Nat.mod_lt _ (by decide))) ?_
          refine lv_i2c (v := nI (sgA cu k j)) hx hb dX1_add_39 (i2c_N (Nat.mod_lt _ (by decide))) ?_
          refine gCast (j := ln + j) (f' := fun z9 => nI ((va_up (adT tn ln cu k j) (ln + j) (sgA cu k j)) z9)) hx hb hC.K hP hD hS 1 2 rfl rfl (rfl) (by omega) (by decide) (upc_N _ _ (Nat.mod_lt _ (by decide))) dX1_add_40 (fun H locs hP hD hS => ?_)
          have hP : PP G ([(th, .inr (1, [.ref t1, .int (nI (ln + j))])), (t1, .inl (cC G, 80, .inl (fun z9 => nI ((va_up (adT tn ln cu k j) (ln + j) (sgA cu k j)) z9))))]) H := hP
          have hD : va_D A ([(th, .inr (1, [.ref t1, .int (nI (ln + j))])), (t1, .inl (cC G, 80, .inl (fun z9 => nI ((va_up (adT tn ln cu k j) (ln + j) (sgA cu k j)) z9))))]) := hD
          refine lv_aload_n hx hb dX1_add_41 rfl (lv_at hl 0 rfl) ?_
          refine lv_dup hx hb dX1_add_42 rfl ?_
          refine va_get (D := gD G) (cl := vwCl) (tys := tyl G) (ci := 1) (v := .int (nI (ln + j))) (C := RX1) (T := TX1) (N := 2) hx hb hts (by decide +kernel) hown hC.K hP 0 rfl rfl 1 (by decide) (hts (.fieldLink RX1 15 "MotionPost$CommandText" "length" "I") (by decide +kernel)) (fun _ h9 => h9) rfl dX1_add_43 ?_
          refine lv_iconst (v := nI (1)) hx hb dX1_add_46 (by decide) ?_
          refine gAdd (z := nI ((ln + j) + 1)) hx hb dX1_add_47 (nI_add _ _) ?_
          refine va_put (D := gD G) (cl := vwCl) (tys := tyl G) (ci := 1) (v := .int (nI ((ln + j) + 1))) (ty := .int) (C := RX1) (T := TX1) (N := 2) hx hb hts (by decide +kernel) tyX1 tyX1_ok nmX1 hown hC.K hP hD hS 0 rfl rfl 1 (by decide) (hts (.fieldLink RX1 15 "MotionPost$CommandText" "length" "I") (by decide +kernel)) (fun _ h9 => h9) rfl (by decide +kernel) (rfl) rfl (Nat.le_of_ble_eq_true rfl) dX1_add_48 (fun H locs hP hD hS => ?_)
          have hP : PP G ([(th, .inr (1, [.ref t1, .int (nI ((ln + j) + 1))])), (t1, .inl (cC G, 80, .inl (fun z9 => nI ((va_up (adT tn ln cu k j) (ln + j) (sgA cu k j)) z9))))]) H := hP
          have hD : va_D A ([(th, .inr (1, [.ref t1, .int (nI ((ln + j) + 1))])), (t1, .inl (cC G, 80, .inl (fun z9 => nI ((va_up (adT tn ln cu k j) (ln + j) (sgA cu k j)) z9))))]) := hD
          refine lv_iinc (v := iI ((((k - j : Nat) : Int) - 1) + (-1))) (lv' := [(4, .int (iI ((((k - j : Nat) : Int) - 1) + (-1)))), (0, .ref th), (1, .long (lN cu)), (3, .int (nI (k)))]) hx hb dX1_add_51 hl (k := 3) rfl (inc_z (((k - j : Nat) : Int) - 1) (-1)) (by decide) rfl (fun ls hl => ?_)
          refine lv_goto (tgt := 5) hx hb dX1_add_54 (by decide) ?_
          exact ih_5 (j + 1) (by omega) (by omega) H locs ls hP hD hS (lv_sub hl [1, 2, 3, 0] ((lvc rfl (lvc rfl (lvc rfl (lvc (congrArg Value.int (congrArg iI (by omega))) rfl))))))
  exact L_5 (k + 1) 0 (Nat.lt_succ_self _) (by omega) s.heap locs ls hP hD hS (lv_sub hl [1, 2, 3, 0] (lvc rfl (lvc rfl (lvc rfl (lvc (congrArg Value.int (congrArg iI (by omega))) rfl)))))
