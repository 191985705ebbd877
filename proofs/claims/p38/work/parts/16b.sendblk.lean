set_option maxHeartbeats 4000000 in
set_option maxRecDepth 100000 in
theorem c_X8_sendBlock {l : Launch} {G : GT} {H0 : Heap} (a : Nat → Nat) (v : SVT) (mo ki : Nat → Nat) (pr df : Nat → Int) (co bi : Nat) (g9 : Nat → Int32) (lr : Nat) (bf : Nat → Int) (tn : Nat → Nat) (ln : Nat) (b : Nat) (hb4 : b < 4) (hq : 1 ≤ co ∧ co ≤ 8) (hdf : D15 df) (hkb : ki b ≤ 2) (hP0 : PP G (y3W G a v mo ki pr df (nI (co)) bi g9 lr bf tn ln) H0) (hB0 : va_D (lo G) (y3W G a v mo ki pr df (nI (co)) bi g9 lr bf tn ln)) : Met l yX8_sendBlock wsX8_sendBlock ({ frames := 2, cells := 0, slots := 0, locals := 43 } : Room) (pcG G [.ref (a 0), .int (nI (b))] H0) (qMv G (fun (u : Unit) => u = ()) (fun (u : Unit) => y3W G a (v.1, snS (vS v.1 pr df co (ki b)) v.2.1 b 16, v.2.2.1, v.2.2.2.1, v.2.2.2.2.1, v.2.2.2.2.2.1, v.2.2.2.2.2.2.1, v.2.2.2.2.2.2.2.1, v.2.2.2.2.2.2.2.2.1, v.2.2.2.2.2.2.2.2.2) mo ki pr df (nI (co)) bi g9 lr bf tn ln) (y3W G a v mo ki pr df (nI (co)) bi g9 lr bf tn ln) H0) 0 0 (va_A (y3W G a v mo ki pr df (nI (co)) bi g9 lr bf tn ln) H0.size) := by
  refine enter (cc := cX8_sendBlock) (maxL := 5) (ret := none) (own := RX8) (lv := [(0, .ref (a 0)), (1, .int (nI (b)))]) (by decide) rfl rfl rfl (Nat.le_of_ble_eq_true rfl) ?_
  intro pg ev s m below meth c hx hb hr hts hown hlocks hml hnm hH hC ls hl
  subst hH
  have hLo := va_freeB hB0 hC.2.2.2.1
  have hD := hB0.self (sz := s.heap.size)
  have hS : va_S (va_A (y3W G a v mo ki pr df (nI (co)) bi g9 lr bf tn ln) s.heap.size) s.heap s.heap [] := va_S.rf
  unfold qMv
  generalize hAe : va_A (y3W G a v mo ki pr df (nI (co)) bi g9 lr bf tn ln) s.heap.size = A at hD hLo hS ⊢
  have hA : ∀ q, s.heap.size ≤ q → A q := fun q h => by rw [← hAe]; exact Or.inr h
  generalize ([] : List Loc) = locs at hS ⊢
  have hP := hP0
  refine lv_aload_n hx hb dX8_sendBlock_0 rfl (lv_at hl 0 rfl) ?_
  refine va_get (D := gD G) (cl := vwCl) (tys := tyl G) (ci := 7) (v := .ref (a 10)) (C := RX8) (T := TX8) (N := 8) hx hb hts (by decide +kernel) hown hC.K hP 0 rfl rfl 1 (by decide) (hts (.fieldLink RX8 19 "MotionPost" "plan" "LMotionPost$Plan;") (by decide +kernel)) (fun _ h9 => h9) rfl dX8_sendBlock_1 ?_
  refine lv_iload_n hx hb dX8_sendBlock_4 rfl (lv_at hl 1 rfl) ?_
  refine kPi (va_runVN (As := [.int (nI (b))]) (rest := []) ⟨hx, hb, hml, hown, hts⟩ (c_X5_kindOf (a 10) (a 11) (a 12) (a 13) (a 14) (a 15) mo ki pr df (nI (co)) bi b (by first | assumption | omega) (hP.sub [10, 11, 12, 13, 14, 15] rfl)) ⟨va_cnB 1 hts gX8_sendBlock_X5_kindOf_n158 rfl rfl rfl (hC.nest 57 rfl) (hts (.initialized RX5) (by decide +kernel)) (by decide +kernel) ⟨Nat.le_of_ble_eq_true rfl, Nat.le_of_ble_eq_true rfl⟩, (hts (.instanceMethod yX5_kindOf) (by decide +kernel)), (hts (.selects RX5 yX5_kindOf yX5_kindOf) (by decide +kernel))⟩ (preV hC hS hLo hP (ci := 4) (q0 := 10) rfl rfl) rfl rfl hl.1 rfl (lv_room (Nat.le_of_ble_eq_true rfl)) dX8_sendBlock_5 ⟨Nat.zero_le _, Nat.zero_le _⟩) hS (fun locs hS => ?_)
  refine lv_istore_n (lv' := [(2, .int (nI (ki b))), (0, .ref (a 0)), (1, .int (nI (b)))]) hx hb dX8_sendBlock_8 rfl hl (by decide) rfl (fun ls hl => ?_)
  refine lv_iconst (v := nI (0)) hx hb dX8_sendBlock_9 (by decide) ?_
  refine lv_istore_n (lv' := [(3, .int (nI (0))), (2, .int (nI (ki b))), (0, .ref (a 0)), (1, .int (nI (b)))]) hx hb dX8_sendBlock_10 rfl hl (by decide) rfl (fun ls hl => ?_)
  have L_11 : ∀ (n_11 : Nat) (i : Nat), 16 - i < n_11 → (i ≤ 16) → ∀ (H : Heap) (locs : List Loc) (ls : Array Slot), PP G (y3W G a (v.1, snS (vS v.1 pr df co (ki b)) v.2.1 b i, v.2.2.1, v.2.2.2.1, v.2.2.2.2.1, v.2.2.2.2.2.1, v.2.2.2.2.2.2.1, v.2.2.2.2.2.2.2.1, v.2.2.2.2.2.2.2.2.1, v.2.2.2.2.2.2.2.2.2) mo ki pr df (nI (co)) bi g9 lr bf tn ln) H → va_D A (y3W G a (v.1, snS (vS v.1 pr df co (ki b)) v.2.1 b i, v.2.2.1, v.2.2.2.1, v.2.2.2.2.1, v.2.2.2.2.2.1, v.2.2.2.2.2.2.1, v.2.2.2.2.2.2.2.1, v.2.2.2.2.2.2.2.2.1, v.2.2.2.2.2.2.2.2.2) mo ki pr df (nI (co)) bi g9 lr bf tn ln) → va_S A s.heap H locs → lv_has ls 5 [(0, .ref (a 0)), (1, .int (nI (b))), (2, .int (nI (ki b))), (3, .int (nI (i)))] → W pg l ev ({ frames := 2, cells := 0, slots := 0, locals := 43 } : Room) s m (([.ref (a 0), .int (nI (b))] : List Value).toArray) below meth c H locs 0 0 (MQ below (va_Qv (fun (u : Unit) => u = ()) (fun (u : Unit) t9 => PP G (y3W G a (v.1, snS (vS v.1 pr df co (ki b)) v.2.1 b 16, v.2.2.1, v.2.2.2.1, v.2.2.2.2.1, v.2.2.2.2.2.1, v.2.2.2.2.2.2.1, v.2.2.2.2.2.2.2.1, v.2.2.2.2.2.2.2.2.1, v.2.2.2.2.2.2.2.2.2) mo ki pr df (nI (co)) bi g9 lr bf tn ln) t9.heap) A) (([.ref (a 0), .int (nI (b))] : List Value).toArray) s 0 0 A) (F0 m 11 ls []) := by
    intro n_11
    induction n_11 with
    | zero => intro i hn; exact absurd hn (Nat.not_lt_zero _)
    | succ n_11 ih_11 =>
      intro i hn_11 hi9 H locs ls hP hD hS hl
      refine lv_iload_n hx hb dX8_sendBlock_11 rfl (lv_at hl 3 rfl) ?_
      refine lv_bipush (v := nI (16)) hx hb dX8_sendBlock_12 (by decide) ?_
      refine lv_icmp_ge (tgt := 84) hx hb dX8_sendBlock_14 (by decide) (fun c_1 => ?_) (fun c_1 => ?_)
      · have f_2 : (16 : Int) ≤ ((i : Nat) : Int) := (c_le (nI_toInt (n := 16) (by omega)) (nI_toInt (n := i) (by omega))).mp c_1
        have e_i : i = 16 := by omega
        replace e_i := e_i.symm
        subst e_i
        exact xMv (G := G) (post := (fun (u : Unit) => u = ())) (w1 := (fun (u : Unit) => y3W G a (v.1, snS (vS v.1 pr df co (ki b)) v.2.1 b 16, v.2.2.1, v.2.2.2.1, v.2.2.2.2.1, v.2.2.2.2.2.1, v.2.2.2.2.2.2.1, v.2.2.2.2.2.2.2.1, v.2.2.2.2.2.2.2.2.1, v.2.2.2.2.2.2.2.2.2) mo ki pr df (nI (co)) bi g9 lr bf tn ln)) (()) hx hb hr hlocks hP hS (by exact rfl) dX8_sendBlock_84
      · have f_3 : ¬ (16 : Int) ≤ ((i : Nat) : Int) := fun z => c_1 ((c_le (nI_toInt (n := 16) (by omega)) (nI_toInt (n := i) (by omega))).mpr z)
        refine lv_iload_n hx hb dX8_sendBlock_17 rfl (lv_at hl 1 rfl) ?_
        refine lv_iload_n hx hb dX8_sendBlock_18 rfl (lv_at hl 3 rfl) ?_
        refine kPi (va_runS (As := [.int (nI (b)), .int (nI (i))]) (rest := []) ⟨hx, hb, hml, hown, hts⟩ (c_X8_pixelIn b i (by first | assumption | omega) (by first | assumption | omega)) (va_cwS 2 hts gX8_sendBlock_X8_pixelIn rfl rfl rfl (by decide +kernel) ⟨Nat.le_of_ble_eq_true rfl, Nat.le_of_ble_eq_true rfl⟩) (preS hC hS hLo) rfl rfl hl.1 rfl (lv_room (Nat.le_of_ble_eq_true rfl)) dX8_sendBlock_19 ⟨Nat.zero_le _, Nat.zero_le _⟩) hS (fun locs hS => ?_)
        have hpx := px_lt hb4 (by omega : i < 16)
        refine lv_istore (lv' := [(4, .int (nI (px b i))), (0, .ref (a 0)), (1, .int (nI (b))), (2, .int (nI (ki b))), (3, .int (nI (i)))]) hx hb dX8_sendBlock_22 hl (by decide) rfl (fun ls hl => ?_)
        refine lv_aload_n hx hb dX8_sendBlock_24 rfl (lv_at hl 1 rfl) ?_
        refine va_get (D := gD G) (cl := vwCl) (tys := tyl G) (ci := 7) (v := .ref (a 1)) (C := RX8) (T := TX8) (N := 8) hx hb hts (by decide +kernel) hown hC.K hP 0 rfl rfl 0 (by decide) (hts (.fieldLink RX8 12 "MotionPost" "now" "LMotionPost$State;") (by decide +kernel)) (fun _ h9 => h9) rfl dX8_sendBlock_25 ?_
        refine va_getN (D := gD G) (cl := vwCl) (tys := tyl G) (ci := 6) (v := .ref (a 4)) (C := RX7) (T := TX7) (N := 10) (host := "MotionPost") (ref := "MotionPost$State") hx hb hts (by decide +kernel) hown hC.K hP 1 rfl rfl 1 (by decide) (hC.nestW 7 rfl rfl) (fun _ h9 => h9) rfl dX8_sendBlock_28 ?_
        refine lv_iload hx hb dX8_sendBlock_31 (lv_at hl 0 rfl) ?_
        have J_74 : ∀ (locs : List Loc) (ls : Array Slot), va_S A s.heap H locs → lv_has ls 5 [(0, .ref (a 0)), (1, .int (nI (b))), (2, .int (nI (ki b))), (3, .int (nI (i))), (4, .int (nI (px b i)))] → W pg l ev ({ frames := 2, cells := 0, slots := 0, locals := 43 } : Room) s m (([.ref (a 0), .int (nI (b))] : List Value).toArray) below meth c H locs 0 0 (MQ below (va_Qv (fun (u : Unit) => u = ()) (fun (u : Unit) t9 => PP G (y3W G a (v.1, snS (vS v.1 pr df co (ki b)) v.2.1 b 16, v.2.2.1, v.2.2.2.1, v.2.2.2.2.1, v.2.2.2.2.2.1, v.2.2.2.2.2.2.1, v.2.2.2.2.2.2.2.1, v.2.2.2.2.2.2.2.2.1, v.2.2.2.2.2.2.2.2.2) mo ki pr df (nI (co)) bi g9 lr bf tn ln) t9.heap) A) (([.ref (a 0), .int (nI (b))] : List Value).toArray) s 0 0 A) (F0 m 74 ls [.int (iI (vS v.1 pr df co (ki b) (px b i))), .int (nI (px b i)), .ref (a 4)]) := by
          intro locs ls hS hl
          refine kMi (va_runVN (As := [.int (nI (px b i)), .int (iI (vS v.1 pr df co (ki b) (px b i)))]) (rest := []) ⟨hx, hb, hml, hown, hts⟩ (c_X4_put (a 4) (a 5) (snS (vS v.1 pr df co (ki b)) v.2.1 b i) (px b i) (vS v.1 pr df co (ki b) (px b i)) (by first | assumption | omega) (hP.sub [4, 5] rfl) ((hD.sub [4, 5] (by decide) rfl).weaken (fun _ _ _ h => hLo _ h))) ⟨va_cnB 2 hts gX8_sendBlock_X4_put_n76 rfl rfl rfl (hC.nest 53 rfl) (hts (.initialized RX4) (by decide +kernel)) (by decide +kernel) ⟨Nat.le_of_ble_eq_true rfl, Nat.le_of_ble_eq_true rfl⟩, (hts (.instanceMethod yX4_put) (by decide +kernel)), (hts (.selects RX4 yX4_put yX4_put) (by decide +kernel))⟩ (preV hC hS hLo hP (ci := 3) (q0 := 4) rfl rfl) rfl rfl hl.1 rfl (lv_room (Nat.le_of_ble_eq_true rfl)) dX8_sendBlock_74 ⟨Nat.zero_le _, Nat.zero_le _⟩) hP hD hS hA [4, 5] (by decide) rfl (fun _ => rfl) (fun r_6 u_4 H locs q_5 hP hD hS => ?_)
          have hP : PP G (y3W G a (v.1, va_up (snS (vS v.1 pr df co (ki b)) v.2.1 b i) (px b i) (vS v.1 pr df co (ki b) (px b i)), v.2.2.1, v.2.2.2.1, v.2.2.2.2.1, v.2.2.2.2.2.1, v.2.2.2.2.2.2.1, v.2.2.2.2.2.2.2.1, v.2.2.2.2.2.2.2.2.1, v.2.2.2.2.2.2.2.2.2) mo ki pr df (nI (co)) bi g9 lr bf tn ln) H := hP
          have hD : va_D A (y3W G a (v.1, va_up (snS (vS v.1 pr df co (ki b)) v.2.1 b i) (px b i) (vS v.1 pr df co (ki b) (px b i)), v.2.2.1, v.2.2.2.1, v.2.2.2.2.1, v.2.2.2.2.2.1, v.2.2.2.2.2.2.1, v.2.2.2.2.2.2.2.1, v.2.2.2.2.2.2.2.2.1, v.2.2.2.2.2.2.2.2.2) mo ki pr df (nI (co)) bi g9 lr bf tn ln) := hD
          refine topE (v' := iI ((snS (vS v.1 pr df co (ki b)) v.2.1 b i) (px b i))) (q_5) ?_
          refine lv_pop hx hb dX8_sendBlock_77 rfl ?_
          refine lv_iinc (v := nI (i + 1)) (lv' := [(3, .int (nI (i + 1))), (0, .ref (a 0)), (1, .int (nI (b))), (2, .int (nI (ki b))), (4, .int (nI (px b i)))]) hx hb dX8_sendBlock_78 hl (k := 3) rfl (inc_p i 1) (by decide) rfl (fun ls hl => ?_)
          refine lv_goto (tgt := 11) hx hb dX8_sendBlock_81 (by decide) ?_
          exact ih_11 (i + 1) (by omega) (by omega) H locs ls hP hD hS (lv_sub hl [1, 2, 3, 0] ((lvc rfl (lvc rfl (lvc rfl (lvc rfl rfl))))))
        refine lv_iload_n hx hb dX8_sendBlock_33 rfl (lv_at hl 3 rfl) ?_
        refine lv_if_ne (tgt := 52) hx hb dX8_sendBlock_34 (by decide) (fun c_7 => ?_) (fun c_7 => ?_)
        · have f_8 : ¬ ((ki b : Nat) : Int) = (0 : Int) := fun z => c_7 ((c_eq (nI_toInt (n := ki b) (by omega)) rfl).mpr z)
          refine lv_aload_n hx hb dX8_sendBlock_52 rfl (lv_at hl 1 rfl) ?_
          refine va_get (D := gD G) (cl := vwCl) (tys := tyl G) (ci := 7) (v := .ref (a 10)) (C := RX8) (T := TX8) (N := 8) hx hb hts (by decide +kernel) hown hC.K hP 0 rfl rfl 1 (by decide) (hts (.fieldLink RX8 19 "MotionPost" "plan" "LMotionPost$Plan;") (by decide +kernel)) (fun _ h9 => h9) rfl dX8_sendBlock_53 ?_
          refine va_getN (D := gD G) (cl := vwCl) (tys := tyl G) (ci := 4) (v := .ref (a 13)) (C := RX5) (T := TX5) (N := 6) (host := "MotionPost") (ref := "MotionPost$Plan") hx hb hts (by decide +kernel) hown hC.K hP 10 rfl rfl 2 (by decide) (hC.nestW 19 rfl rfl) (fun _ h9 => h9) rfl dX8_sendBlock_56 ?_
          refine lv_iload hx hb dX8_sendBlock_59 (lv_at hl 0 rfl) ?_
          refine kPi (va_runVN (As := [.int (nI (px b i))]) (rest := [.int (nI (px b i)), .ref (a 4)]) ⟨hx, hb, hml, hown, hts⟩ (c_X4_valueAt (a 13) (a 14) pr (px b i) (by first | assumption | omega) (hP.sub [13, 14] rfl)) ⟨va_cnB 1 hts gX8_sendBlock_X4_valueAt_n109 rfl rfl rfl (hC.nest 33 rfl) (hts (.initialized RX4) (by decide +kernel)) (by decide +kernel) ⟨Nat.le_of_ble_eq_true rfl, Nat.le_of_ble_eq_true rfl⟩, (hts (.instanceMethod yX4_valueAt) (by decide +kernel)), (hts (.selects RX4 yX4_valueAt yX4_valueAt) (by decide +kernel))⟩ (preV hC hS hLo hP (ci := 3) (q0 := 13) rfl rfl) rfl rfl hl.1 rfl (lv_room (Nat.le_of_ble_eq_true rfl)) dX8_sendBlock_61 ⟨Nat.zero_le _, Nat.zero_le _⟩) hS (fun locs hS => ?_)
          refine lv_aload_n hx hb dX8_sendBlock_64 rfl (lv_at hl 1 rfl) ?_
          refine va_get (D := gD G) (cl := vwCl) (tys := tyl G) (ci := 7) (v := .ref (a 10)) (C := RX8) (T := TX8) (N := 8) hx hb hts (by decide +kernel) hown hC.K hP 0 rfl rfl 1 (by decide) (hts (.fieldLink RX8 19 "MotionPost" "plan" "LMotionPost$Plan;") (by decide +kernel)) (fun _ h9 => h9) rfl dX8_sendBlock_65 ?_
          refine lv_iload hx hb dX8_sendBlock_68 (lv_at hl 0 rfl) ?_
          refine kPi (va_runVN (As := [.int (nI (px b i))]) (rest := [.int (iI (pr (px b i))), .int (nI (px b i)), .ref (a 4)]) ⟨hx, hb, hml, hown, hts⟩ (c_X5_additionAt (a 10) (a 11) (a 12) (a 13) (a 14) (a 15) mo ki pr df co bi (px b i) (by first | assumption | omega) (by first | assumption | omega) (by first | assumption | omega) (hP.sub [10, 11, 12, 13, 14, 15] rfl)) ⟨va_cnB 1 hts gX8_sendBlock_X5_additionAt_n274 rfl rfl rfl (hC.nest 60 rfl) (hts (.initialized RX5) (by decide +kernel)) (by decide +kernel) ⟨Nat.le_of_ble_eq_true rfl, Nat.le_of_ble_eq_true rfl⟩, (hts (.instanceMethod yX5_additionAt) (by decide +kernel)), (hts (.selects RX5 yX5_additionAt yX5_additionAt) (by decide +kernel))⟩ (preV hC hS hLo hP (ci := 4) (q0 := 10) rfl rfl) rfl rfl hl.1 rfl (lv_room (Nat.le_of_ble_eq_true rfl)) dX8_sendBlock_70 ⟨Nat.zero_le _, Nat.zero_le _⟩) hS (fun locs hS => ?_)
          refine gAdd (z := iI ((pr (px b i)) + ((co : Int) * lv (df (px b i)) co))) hx hb dX8_sendBlock_73 (z_add rfl rfl) ?_
          refine topE (v' := iI (vS v.1 pr df co (ki b) (px b i))) (by first | exact congrArg iI (vS_0 (by omega)) | exact congrArg iI (vS_n (by omega))) ?_
          exact J_74 locs ls hS (lv_sub hl [1, 2, 3, 4, 0] (rfl))
        · have f_9 : ((ki b : Nat) : Int) = (0 : Int) := (c_eq (nI_toInt (n := ki b) (by omega)) rfl).mp c_7
          refine lv_aload_n hx hb dX8_sendBlock_37 rfl (lv_at hl 1 rfl) ?_
          refine va_get (D := gD G) (cl := vwCl) (tys := tyl G) (ci := 7) (v := .ref (a 1)) (C := RX8) (T := TX8) (N := 8) hx hb hts (by decide +kernel) hown hC.K hP 0 rfl rfl 0 (by decide) (hts (.fieldLink RX8 12 "MotionPost" "now" "LMotionPost$State;") (by decide +kernel)) (fun _ h9 => h9) rfl dX8_sendBlock_38 ?_
          refine va_getN (D := gD G) (cl := vwCl) (tys := tyl G) (ci := 6) (v := .ref (a 2)) (C := RX7) (T := TX7) (N := 10) (host := "MotionPost") (ref := "MotionPost$State") hx hb hts (by decide +kernel) hown hC.K hP 1 rfl rfl 0 (by decide) (hC.nestW 2 rfl rfl) (fun _ h9 => h9) rfl dX8_sendBlock_41 ?_
          refine lv_iload hx hb dX8_sendBlock_44 (lv_at hl 0 rfl) ?_
          refine kPi (va_runVN (As := [.int (nI (px b i))]) (rest := [.int (nI (px b i)), .ref (a 4)]) ⟨hx, hb, hml, hown, hts⟩ (c_X4_valueAt (a 2) (a 3) v.1 (px b i) (by first | assumption | omega) (hP.sub [2, 3] rfl)) ⟨va_cnB 1 hts gX8_sendBlock_X4_valueAt_n109 rfl rfl rfl (hC.nest 33 rfl) (hts (.initialized RX4) (by decide +kernel)) (by decide +kernel) ⟨Nat.le_of_ble_eq_true rfl, Nat.le_of_ble_eq_true rfl⟩, (hts (.instanceMethod yX4_valueAt) (by decide +kernel)), (hts (.selects RX4 yX4_valueAt yX4_valueAt) (by decide +kernel))⟩ (preV hC hS hLo hP (ci := 3) (q0 := 2) rfl rfl) rfl rfl hl.1 rfl (lv_room (Nat.le_of_ble_eq_true rfl)) dX8_sendBlock_46 ⟨Nat.zero_le _, Nat.zero_le _⟩) hS (fun locs hS => ?_)
          refine lv_goto (tgt := 74) hx hb dX8_sendBlock_49 (by decide) ?_
          refine topE (v' := iI (vS v.1 pr df co (ki b) (px b i))) (by first | exact congrArg iI (vS_0 (by omega)) | exact congrArg iI (vS_n (by omega))) ?_
          exact J_74 locs ls hS (lv_sub hl [1, 2, 3, 4, 0] (rfl))
  exact L_11 (16 + 1) 0 (Nat.lt_succ_self _) (by omega) s.heap locs ls hP hD hS (lv_sub hl [2, 3, 1, 0] (lvc rfl (lvc rfl (lvc rfl (lvc rfl rfl)))))

set_option maxHeartbeats 4000000 in
set_option maxRecDepth 100000 in
theorem c_X8_sendBlock_k {l : Launch} {G : GT} {H0 : Heap} (a : Nat → Nat) (v : SVT) (mo ki : Nat → Nat) (pr df : Nat → Int) (co : Int32) (bi : Nat) (g9 : Nat → Int32) (lr : Nat) (bf : Nat → Int) (tn : Nat → Nat) (ln : Nat) (b : Nat) (hb4 : b < 4) (hraw : ki b = 0) (hP0 : PP G (y3W G a v mo ki pr df co bi g9 lr bf tn ln) H0) (hB0 : va_D (lo G) (y3W G a v mo ki pr df co bi g9 lr bf tn ln)) : Met l yX8_sendBlock wsX8_sendBlock ({ frames := 1, cells := 0, slots := 0, locals := 23 } : Room) (pcG G [.ref (a 0), .int (nI (b))] H0) (qMv G (fun (u : Unit) => u = ()) (fun (u : Unit) => y3W G a (v.1, snS v.1 v.2.1 b 16, v.2.2.1, v.2.2.2.1, v.2.2.2.2.1, v.2.2.2.2.2.1, v.2.2.2.2.2.2.1, v.2.2.2.2.2.2.2.1, v.2.2.2.2.2.2.2.2.1, v.2.2.2.2.2.2.2.2.2) mo ki pr df co bi g9 lr bf tn ln) (y3W G a v mo ki pr df co bi g9 lr bf tn ln) H0) 0 0 (va_A (y3W G a v mo ki pr df co bi g9 lr bf tn ln) H0.size) := by
  refine enter (cc := cX8_sendBlock) (maxL := 5) (ret := none) (own := RX8) (lv := [(0, .ref (a 0)), (1, .int (nI (b)))]) (by decide) rfl rfl rfl (Nat.le_of_ble_eq_true rfl) ?_
  intro pg ev s m below meth c hx hb hr hts hown hlocks hml hnm hH hC ls hl
  subst hH
  have hLo := va_freeB hB0 hC.2.2.2.1
  have hD := hB0.self (sz := s.heap.size)
  have hS : va_S (va_A (y3W G a v mo ki pr df co bi g9 lr bf tn ln) s.heap.size) s.heap s.heap [] := va_S.rf
  unfold qMv
  generalize hAe : va_A (y3W G a v mo ki pr df co bi g9 lr bf tn ln) s.heap.size = A at hD hLo hS ⊢
  have hA : ∀ q, s.heap.size ≤ q → A q := fun q h => by rw [← hAe]; exact Or.inr h
  generalize ([] : List Loc) = locs at hS ⊢
  have hP := hP0
  refine lv_aload_n hx hb dX8_sendBlock_0 rfl (lv_at hl 0 rfl) ?_
  refine va_get (D := gD G) (cl := vwCl) (tys := tyl G) (ci := 7) (v := .ref (a 10)) (C := RX8) (T := TX8) (N := 8) hx hb hts (by decide +kernel) hown hC.K hP 0 rfl rfl 1 (by decide) (hts (.fieldLink RX8 19 "MotionPost" "plan" "LMotionPost$Plan;") (by decide +kernel)) (fun _ h9 => h9) rfl dX8_sendBlock_1 ?_
  refine lv_iload_n hx hb dX8_sendBlock_4 rfl (lv_at hl 1 rfl) ?_
  refine kPi (va_runVN (As := [.int (nI (b))]) (rest := []) ⟨hx, hb, hml, hown, hts⟩ (c_X5_kindOf (a 10) (a 11) (a 12) (a 13) (a 14) (a 15) mo ki pr df co bi b (by first | assumption | omega) (hP.sub [10, 11, 12, 13, 14, 15] rfl)) ⟨va_cnB 1 hts gX8_sendBlock_X5_kindOf_n158 rfl rfl rfl (hC.nest 57 rfl) (hts (.initialized RX5) (by decide +kernel)) (by decide +kernel) ⟨Nat.le_of_ble_eq_true rfl, Nat.le_of_ble_eq_true rfl⟩, (hts (.instanceMethod yX5_kindOf) (by decide +kernel)), (hts (.selects RX5 yX5_kindOf yX5_kindOf) (by decide +kernel))⟩ (preV hC hS hLo hP (ci := 4) (q0 := 10) rfl rfl) rfl rfl hl.1 rfl (lv_room (Nat.le_of_ble_eq_true rfl)) dX8_sendBlock_5 ⟨Nat.zero_le _, Nat.zero_le _⟩) hS (fun locs hS => ?_)
  refine lv_istore_n (lv' := [(2, .int (nI (ki b))), (0, .ref (a 0)), (1, .int (nI (b)))]) hx hb dX8_sendBlock_8 rfl hl (by decide) rfl (fun ls hl => ?_)
  refine lv_iconst (v := nI (0)) hx hb dX8_sendBlock_9 (by decide) ?_
  refine lv_istore_n (lv' := [(3, .int (nI (0))), (2, .int (nI (ki b))), (0, .ref (a 0)), (1, .int (nI (b)))]) hx hb dX8_sendBlock_10 rfl hl (by decide) rfl (fun ls hl => ?_)
  have L_11 : ∀ (n_11 : Nat) (i : Nat), 16 - i < n_11 → (i ≤ 16) → ∀ (H : Heap) (locs : List Loc) (ls : Array Slot), PP G (y3W G a (v.1, snS v.1 v.2.1 b i, v.2.2.1, v.2.2.2.1, v.2.2.2.2.1, v.2.2.2.2.2.1, v.2.2.2.2.2.2.1, v.2.2.2.2.2.2.2.1, v.2.2.2.2.2.2.2.2.1, v.2.2.2.2.2.2.2.2.2) mo ki pr df co bi g9 lr bf tn ln) H → va_D A (y3W G a (v.1, snS v.1 v.2.1 b i, v.2.2.1, v.2.2.2.1, v.2.2.2.2.1, v.2.2.2.2.2.1, v.2.2.2.2.2.2.1, v.2.2.2.2.2.2.2.1, v.2.2.2.2.2.2.2.2.1, v.2.2.2.2.2.2.2.2.2) mo ki pr df co bi g9 lr bf tn ln) → va_S A s.heap H locs → lv_has ls 5 [(0, .ref (a 0)), (1, .int (nI (b))), (2, .int (nI (ki b))), (3, .int (nI (i)))] → W pg l ev ({ frames := 1, cells := 0, slots := 0, locals := 23 } : Room) s m (([.ref (a 0), .int (nI (b))] : List Value).toArray) below meth c H locs 0 0 (MQ below (va_Qv (fun (u : Unit) => u = ()) (fun (u : Unit) t9 => PP G (y3W G a (v.1, snS v.1 v.2.1 b 16, v.2.2.1, v.2.2.2.1, v.2.2.2.2.1, v.2.2.2.2.2.1, v.2.2.2.2.2.2.1, v.2.2.2.2.2.2.2.1, v.2.2.2.2.2.2.2.2.1, v.2.2.2.2.2.2.2.2.2) mo ki pr df co bi g9 lr bf tn ln) t9.heap) A) (([.ref (a 0), .int (nI (b))] : List Value).toArray) s 0 0 A) (F0 m 11 ls []) := by
    intro n_11
    induction n_11 with
    | zero => intro i hn; exact absurd hn (Nat.not_lt_zero _)
    | succ n_11 ih_11 =>
      intro i hn_11 hi9 H locs ls hP hD hS hl
      refine lv_iload_n hx hb dX8_sendBlock_11 rfl (lv_at hl 3 rfl) ?_
      refine lv_bipush (v := nI (16)) hx hb dX8_sendBlock_12 (by decide) ?_
      refine lv_icmp_ge (tgt := 84) hx hb dX8_sendBlock_14 (by decide) (fun c_1 => ?_) (fun c_1 => ?_)
      · have f_2 : (16 : Int) ≤ ((i : Nat) : Int) := (c_le (nI_toInt (n := 16) (by omega)) (nI_toInt (n := i) (by omega))).mp c_1
        have e_i : i = 16 := by omega
        replace e_i := e_i.symm
        subst e_i
        exact xMv (G := G) (post := (fun (u : Unit) => u = ())) (w1 := (fun (u : Unit) => y3W G a (v.1, snS v.1 v.2.1 b 16, v.2.2.1, v.2.2.2.1, v.2.2.2.2.1, v.2.2.2.2.2.1, v.2.2.2.2.2.2.1, v.2.2.2.2.2.2.2.1, v.2.2.2.2.2.2.2.2.1, v.2.2.2.2.2.2.2.2.2) mo ki pr df co bi g9 lr bf tn ln)) (()) hx hb hr hlocks hP hS (by exact rfl) dX8_sendBlock_84
      · have f_3 : ¬ (16 : Int) ≤ ((i : Nat) : Int) := fun z => c_1 ((c_le (nI_toInt (n := 16) (by omega)) (nI_toInt (n := i) (by omega))).mpr z)
        refine lv_iload_n hx hb dX8_sendBlock_17 rfl (lv_at hl 1 rfl) ?_
        refine lv_iload_n hx hb dX8_sendBlock_18 rfl (lv_at hl 3 rfl) ?_
        refine kPi (va_runS (As := [.int (nI (b)), .int (nI (i))]) (rest := []) ⟨hx, hb, hml, hown, hts⟩ (c_X8_pixelIn b i (by first | assumption | omega) (by first | assumption | omega)) (va_cwS 2 hts gX8_sendBlock_X8_pixelIn rfl rfl rfl (by decide +kernel) ⟨Nat.le_of_ble_eq_true rfl, Nat.le_of_ble_eq_true rfl⟩) (preS hC hS hLo) rfl rfl hl.1 rfl (lv_room (Nat.le_of_ble_eq_true rfl)) dX8_sendBlock_19 ⟨Nat.zero_le _, Nat.zero_le _⟩) hS (fun locs hS => ?_)
        have hpx := px_lt hb4 (by omega : i < 16)
        refine lv_istore (lv' := [(4, .int (nI (px b i))), (0, .ref (a 0)), (1, .int (nI (b))), (2, .int (nI (ki b))), (3, .int (nI (i)))]) hx hb dX8_sendBlock_22 hl (by decide) rfl (fun ls hl => ?_)
        refine lv_aload_n hx hb dX8_sendBlock_24 rfl (lv_at hl 1 rfl) ?_
        refine va_get (D := gD G) (cl := vwCl) (tys := tyl G) (ci := 7) (v := .ref (a 1)) (C := RX8) (T := TX8) (N := 8) hx hb hts (by decide +kernel) hown hC.K hP 0 rfl rfl 0 (by decide) (hts (.fieldLink RX8 12 "MotionPost" "now" "LMotionPost$State;") (by decide +kernel)) (fun _ h9 => h9) rfl dX8_sendBlock_25 ?_
        refine va_getN (D := gD G) (cl := vwCl) (tys := tyl G) (ci := 6) (v := .ref (a 4)) (C := RX7) (T := TX7) (N := 10) (host := "MotionPost") (ref := "MotionPost$State") hx hb hts (by decide +kernel) hown hC.K hP 1 rfl rfl 1 (by decide) (hC.nestW 7 rfl rfl) (fun _ h9 => h9) rfl dX8_sendBlock_28 ?_
        refine lv_iload hx hb dX8_sendBlock_31 (lv_at hl 0 rfl) ?_
        refine lv_iload_n hx hb dX8_sendBlock_33 rfl (lv_at hl 3 rfl) ?_
        refine lv_if_ne (tgt := 52) hx hb dX8_sendBlock_34 (by decide) (fun c_4 => ?_) (fun c_4 => ?_)
        · have f_5 : ¬ ((ki b : Nat) : Int) = (0 : Int) := fun z => c_4 ((c_eq (nI_toInt (n := ki b) (by omega)) rfl).mpr z)
          exfalso; omega
        · have f_6 : ((ki b : Nat) : Int) = (0 : Int) := (c_eq (nI_toInt (n := ki b) (by omega)) rfl).mp c_4
          refine lv_aload_n hx hb dX8_sendBlock_37 rfl (lv_at hl 1 rfl) ?_
          refine va_get (D := gD G) (cl := vwCl) (tys := tyl G) (ci := 7) (v := .ref (a 1)) (C := RX8) (T := TX8) (N := 8) hx hb hts (by decide +kernel) hown hC.K hP 0 rfl rfl 0 (by decide) (hts (.fieldLink RX8 12 "MotionPost" "now" "LMotionPost$State;") (by decide +kernel)) (fun _ h9 => h9) rfl dX8_sendBlock_38 ?_
          refine va_getN (D := gD G) (cl := vwCl) (tys := tyl G) (ci := 6) (v := .ref (a 2)) (C := RX7) (T := TX7) (N := 10) (host := "MotionPost") (ref := "MotionPost$State") hx hb hts (by decide +kernel) hown hC.K hP 1 rfl rfl 0 (by decide) (hC.nestW 2 rfl rfl) (fun _ h9 => h9) rfl dX8_sendBlock_41 ?_
          refine lv_iload hx hb dX8_sendBlock_44 (lv_at hl 0 rfl) ?_
          refine kPi (va_runVN (As := [.int (nI (px b i))]) (rest := [.int (nI (px b i)), .ref (a 4)]) ⟨hx, hb, hml, hown, hts⟩ (c_X4_valueAt (a 2) (a 3) v.1 (px b i) (by first | assumption | omega) (hP.sub [2, 3] rfl)) ⟨va_cnB 1 hts gX8_sendBlock_X4_valueAt_n109 rfl rfl rfl (hC.nest 33 rfl) (hts (.initialized RX4) (by decide +kernel)) (by decide +kernel) ⟨Nat.le_of_ble_eq_true rfl, Nat.le_of_ble_eq_true rfl⟩, (hts (.instanceMethod yX4_valueAt) (by decide +kernel)), (hts (.selects RX4 yX4_valueAt yX4_valueAt) (by decide +kernel))⟩ (preV hC hS hLo hP (ci := 3) (q0 := 2) rfl rfl) rfl rfl hl.1 rfl (lv_room (Nat.le_of_ble_eq_true rfl)) dX8_sendBlock_46 ⟨Nat.zero_le _, Nat.zero_le _⟩) hS (fun locs hS => ?_)
          refine lv_goto (tgt := 74) hx hb dX8_sendBlock_49 (by decide) ?_
          refine kMi (va_runVN (As := [.int (nI (px b i)), .int (iI (v.1 (px b i)))]) (rest := []) ⟨hx, hb, hml, hown, hts⟩ (c_X4_put (a 4) (a 5) (snS v.1 v.2.1 b i) (px b i) (v.1 (px b i)) (by first | assumption | omega) (hP.sub [4, 5] rfl) ((hD.sub [4, 5] (by decide) rfl).weaken (fun _ _ _ h => hLo _ h))) ⟨va_cnB 2 hts gX8_sendBlock_X4_put_n76 rfl rfl rfl (hC.nest 53 rfl) (hts (.initialized RX4) (by decide +kernel)) (by decide +kernel) ⟨Nat.le_of_ble_eq_true rfl, Nat.le_of_ble_eq_true rfl⟩, (hts (.instanceMethod yX4_put) (by decide +kernel)), (hts (.selects RX4 yX4_put yX4_put) (by decide +kernel))⟩ (preV hC hS hLo hP (ci := 3) (q0 := 4) rfl rfl) rfl rfl hl.1 rfl (lv_room (Nat.le_of_ble_eq_true rfl)) dX8_sendBlock_74 ⟨Nat.zero_le _, Nat.zero_le _⟩) hP hD hS hA [4, 5] (by decide) rfl (fun _ => rfl) (fun r_9 u_7 H locs q_8 hP hD hS => ?_)
          have hP : PP G (y3W G a (v.1, va_up (snS v.1 v.2.1 b i) (px b i) (v.1 (px b i)), v.2.2.1, v.2.2.2.1, v.2.2.2.2.1, v.2.2.2.2.2.1, v.2.2.2.2.2.2.1, v.2.2.2.2.2.2.2.1, v.2.2.2.2.2.2.2.2.1, v.2.2.2.2.2.2.2.2.2) mo ki pr df co bi g9 lr bf tn ln) H := hP
          have hD : va_D A (y3W G a (v.1, va_up (snS v.1 v.2.1 b i) (px b i) (v.1 (px b i)), v.2.2.1, v.2.2.2.1, v.2.2.2.2.1, v.2.2.2.2.2.1, v.2.2.2.2.2.2.1, v.2.2.2.2.2.2.2.1, v.2.2.2.2.2.2.2.2.1, v.2.2.2.2.2.2.2.2.2) mo ki pr df co bi g9 lr bf tn ln) := hD
          refine topE (v' := iI ((snS v.1 v.2.1 b i) (px b i))) (q_8) ?_
          refine lv_pop hx hb dX8_sendBlock_77 rfl ?_
          refine lv_iinc (v := nI (i + 1)) (lv' := [(3, .int (nI (i + 1))), (4, .int (nI (px b i))), (0, .ref (a 0)), (1, .int (nI (b))), (2, .int (nI (ki b)))]) hx hb dX8_sendBlock_78 hl (k := 4) rfl (inc_p i 1) (by decide) rfl (fun ls hl => ?_)
          refine lv_goto (tgt := 11) hx hb dX8_sendBlock_81 (by decide) ?_
          exact ih_11 (i + 1) (by omega) (by omega) H locs ls hP hD hS (lv_sub hl [2, 3, 4, 0] ((lvc rfl (lvc rfl (lvc rfl (lvc rfl rfl))))))
  exact L_11 (16 + 1) 0 (Nat.lt_succ_self _) (by omega) s.heap locs ls hP hD hS (lv_sub hl [2, 3, 1, 0] (lvc rfl (lvc rfl (lvc rfl (lvc rfl rfl)))))
