set_option maxHeartbeats 4000000 in
set_option maxRecDepth 100000 in
theorem c_X8_receiveBlock {l : Launch} {G : GT} {H0 : Heap} (a : Nat → Nat) (v : SVT) (mo ki : Nat → Nat) (pr df : Nat → Int) (co bi : Nat) (g9 : Nat → Int32) (lr : Nat) (bf : Nat → Int) (tn : Nat → Nat) (ln : Nat) (b : Nat) (hb4 : b < 4) (hq : 1 ≤ co ∧ co ≤ 8) (hdf : D15 df) (hmo : M25 mo) (hbf : R15 bf) (hkb : ki b ≤ 2) (hP0 : PP G (y3W G a v mo ki pr df (nI (co)) bi g9 lr bf tn ln) H0) (hB0 : va_D (lo G) (y3W G a v mo ki pr df (nI (co)) bi g9 lr bf tn ln)) : Met l yX8_receiveBlock wsX8_receiveBlock ({ frames := 2, cells := 0, slots := 0, locals := 43 } : Room) (pcG G [.ref (a 0), .int (nI (b))] H0) (qMv G (fun (u : Unit) => u = ()) (fun (u : Unit) => y3W G a (v.1, v.2.1, snS (rvS v.1 bf df co (ki b) (mo b)) v.2.2.1 b 16, v.2.2.2.1, v.2.2.2.2.1, v.2.2.2.2.2.1, v.2.2.2.2.2.2.1, v.2.2.2.2.2.2.2.1, v.2.2.2.2.2.2.2.2.1, v.2.2.2.2.2.2.2.2.2) mo ki pr df (nI (co)) bi g9 lr bf tn ln) (y3W G a v mo ki pr df (nI (co)) bi g9 lr bf tn ln) H0) 0 0 (va_A (y3W G a v mo ki pr df (nI (co)) bi g9 lr bf tn ln) H0.size) := by
  refine enter (cc := cX8_receiveBlock) (maxL := 7) (ret := none) (own := RX8) (lv := [(0, .ref (a 0)), (1, .int (nI (b)))]) (by decide) rfl rfl rfl (Nat.le_of_ble_eq_true rfl) ?_
  intro pg ev s m below meth c hx hb hr hts hown hlocks hml hnm hH hC ls hl
  subst hH
  have hLo := va_freeB hB0 hC.2.2.2.1
  have hD := hB0.self (sz := s.heap.size)
  have hS : va_S (va_A (y3W G a v mo ki pr df (nI (co)) bi g9 lr bf tn ln) s.heap.size) s.heap s.heap [] := va_S.rf
  unfold qMv
  generalize hAe : va_A (y3W G a v mo ki pr df (nI (co)) bi g9 lr bf tn ln) s.heap.size = A at hD hLo hS ⊢
  have hA : ∀ q, s.heap.size ≤ q → A q := fun q h => by rw [← hAe]; exact Or.inr h
  generalize ([] : List Loc) = locs at hS ⊢
  have hP := hP0
  refine lv_aload_n hx hb dX8_receiveBlock_0 rfl (lv_at hl 0 rfl) ?_
  refine va_get (D := gD G) (cl := vwCl) (tys := tyl G) (ci := 7) (v := .ref (a 10)) (C := RX8) (T := TX8) (N := 8) hx hb hts (by decide +kernel) hown hC.K hP 0 rfl rfl 1 (by decide) (hts (.fieldLink RX8 19 "MotionPost" "plan" "LMotionPost$Plan;") (by decide +kernel)) (fun _ h9 => h9) rfl dX8_receiveBlock_1 ?_
  refine lv_iload_n hx hb dX8_receiveBlock_4 rfl (lv_at hl 1 rfl) ?_
  refine kPi (va_runVN (As := [.int (nI (b))]) (rest := []) ⟨hx, hb, hml, hown, hts⟩ (c_X5_kindOf (a 10) (a 11) (a 12) (a 13) (a 14) (a 15) mo ki pr df (nI (co)) bi b (by first | assumption | omega) (hP.sub [10, 11, 12, 13, 14, 15] rfl)) ⟨va_cnB 1 hts gX8_receiveBlock_X5_kindOf_n158 rfl rfl rfl (hC.nest 57 rfl) (hts (.initialized RX5) (by decide +kernel)) (by decide +kernel) ⟨Nat.le_of_ble_eq_true rfl, Nat.le_of_ble_eq_true rfl⟩, (hts (.instanceMethod yX5_kindOf) (by decide +kernel)), (hts (.selects RX5 yX5_kindOf yX5_kindOf) (by decide +kernel))⟩ (preV hC hS hLo hP (ci := 4) (q0 := 10) rfl rfl) rfl rfl hl.1 rfl (lv_room (Nat.le_of_ble_eq_true rfl)) dX8_receiveBlock_5 ⟨Nat.zero_le _, Nat.zero_le _⟩) hS (fun locs hS => ?_)
  refine lv_istore_n (lv' := [(2, .int (nI (ki b))), (0, .ref (a 0)), (1, .int (nI (b)))]) hx hb dX8_receiveBlock_8 rfl hl (by decide) rfl (fun ls hl => ?_)
  refine lv_aload_n hx hb dX8_receiveBlock_9 rfl (lv_at hl 1 rfl) ?_
  refine va_get (D := gD G) (cl := vwCl) (tys := tyl G) (ci := 7) (v := .ref (a 10)) (C := RX8) (T := TX8) (N := 8) hx hb hts (by decide +kernel) hown hC.K hP 0 rfl rfl 1 (by decide) (hts (.fieldLink RX8 19 "MotionPost" "plan" "LMotionPost$Plan;") (by decide +kernel)) (fun _ h9 => h9) rfl dX8_receiveBlock_10 ?_
  refine lv_iload_n hx hb dX8_receiveBlock_13 rfl (lv_at hl 2 rfl) ?_
  refine kPi (va_runVN (As := [.int (nI (b))]) (rest := []) ⟨hx, hb, hml, hown, hts⟩ (c_X5_moveOf (a 10) (a 11) (a 12) (a 13) (a 14) (a 15) mo ki pr df (nI (co)) bi b (by first | assumption | omega) (hP.sub [10, 11, 12, 13, 14, 15] rfl)) ⟨va_cnB 1 hts gX8_receiveBlock_X5_moveOf_n265 rfl rfl rfl (hC.nest 58 rfl) (hts (.initialized RX5) (by decide +kernel)) (by decide +kernel) ⟨Nat.le_of_ble_eq_true rfl, Nat.le_of_ble_eq_true rfl⟩, (hts (.instanceMethod yX5_moveOf) (by decide +kernel)), (hts (.selects RX5 yX5_moveOf yX5_moveOf) (by decide +kernel))⟩ (preV hC hS hLo hP (ci := 4) (q0 := 10) rfl rfl) rfl rfl hl.1 rfl (lv_room (Nat.le_of_ble_eq_true rfl)) dX8_receiveBlock_14 ⟨Nat.zero_le _, Nat.zero_le _⟩) hS (fun locs hS => ?_)
  refine lv_istore_n (lv' := [(3, .int (nI (mo b))), (2, .int (nI (ki b))), (0, .ref (a 0)), (1, .int (nI (b)))]) hx hb dX8_receiveBlock_17 rfl hl (by decide) rfl (fun ls hl => ?_)
  refine lv_iconst (v := nI (0)) hx hb dX8_receiveBlock_18 (by decide) ?_
  refine lv_istore (lv' := [(4, .int (nI (0))), (3, .int (nI (mo b))), (2, .int (nI (ki b))), (0, .ref (a 0)), (1, .int (nI (b)))]) hx hb dX8_receiveBlock_19 hl (by decide) rfl (fun ls hl => ?_)
  have L_21 : ∀ (n_21 : Nat) (i : Nat), 16 - i < n_21 → (i ≤ 16) → ∀ (H : Heap) (locs : List Loc) (ls : Array Slot), PP G (y3W G a (v.1, v.2.1, snS (rvS v.1 bf df co (ki b) (mo b)) v.2.2.1 b i, v.2.2.2.1, v.2.2.2.2.1, v.2.2.2.2.2.1, v.2.2.2.2.2.2.1, v.2.2.2.2.2.2.2.1, v.2.2.2.2.2.2.2.2.1, v.2.2.2.2.2.2.2.2.2) mo ki pr df (nI (co)) bi g9 lr bf tn ln) H → va_D A (y3W G a (v.1, v.2.1, snS (rvS v.1 bf df co (ki b) (mo b)) v.2.2.1 b i, v.2.2.2.1, v.2.2.2.2.1, v.2.2.2.2.2.1, v.2.2.2.2.2.2.1, v.2.2.2.2.2.2.2.1, v.2.2.2.2.2.2.2.2.1, v.2.2.2.2.2.2.2.2.2) mo ki pr df (nI (co)) bi g9 lr bf tn ln) → va_S A s.heap H locs → lv_has ls 7 [(0, .ref (a 0)), (1, .int (nI (b))), (2, .int (nI (ki b))), (3, .int (nI (mo b))), (4, .int (nI (i)))] → W pg l ev ({ frames := 2, cells := 0, slots := 0, locals := 43 } : Room) s m (([.ref (a 0), .int (nI (b))] : List Value).toArray) below meth c H locs 0 0 (MQ below (va_Qv (fun (u : Unit) => u = ()) (fun (u : Unit) t9 => PP G (y3W G a (v.1, v.2.1, snS (rvS v.1 bf df co (ki b) (mo b)) v.2.2.1 b 16, v.2.2.2.1, v.2.2.2.2.1, v.2.2.2.2.2.1, v.2.2.2.2.2.2.1, v.2.2.2.2.2.2.2.1, v.2.2.2.2.2.2.2.2.1, v.2.2.2.2.2.2.2.2.2) mo ki pr df (nI (co)) bi g9 lr bf tn ln) t9.heap) A) (([.ref (a 0), .int (nI (b))] : List Value).toArray) s 0 0 A) (F0 m 21 ls []) := by
    intro n_21
    induction n_21 with
    | zero => intro i hn; exact absurd hn (Nat.not_lt_zero _)
    | succ n_21 ih_21 =>
      intro i hn_21 hi9 H locs ls hP hD hS hl
      refine lv_iload hx hb dX8_receiveBlock_21 (lv_at hl 4 rfl) ?_
      refine lv_bipush (v := nI (16)) hx hb dX8_receiveBlock_23 (by decide) ?_
      refine lv_icmp_ge (tgt := 127) hx hb dX8_receiveBlock_25 (by decide) (fun c_1 => ?_) (fun c_1 => ?_)
      · have f_2 : (16 : Int) ≤ ((i : Nat) : Int) := (c_le (nI_toInt (n := 16) (by omega)) (nI_toInt (n := i) (by omega))).mp c_1
        have e_i : i = 16 := by omega
        replace e_i := e_i.symm
        subst e_i
        exact xMv (G := G) (post := (fun (u : Unit) => u = ())) (w1 := (fun (u : Unit) => y3W G a (v.1, v.2.1, snS (rvS v.1 bf df co (ki b) (mo b)) v.2.2.1 b 16, v.2.2.2.1, v.2.2.2.2.1, v.2.2.2.2.2.1, v.2.2.2.2.2.2.1, v.2.2.2.2.2.2.2.1, v.2.2.2.2.2.2.2.2.1, v.2.2.2.2.2.2.2.2.2) mo ki pr df (nI (co)) bi g9 lr bf tn ln)) (()) hx hb hr hlocks hP hS (by exact rfl) dX8_receiveBlock_127
      · have f_3 : ¬ (16 : Int) ≤ ((i : Nat) : Int) := fun z => c_1 ((c_le (nI_toInt (n := 16) (by omega)) (nI_toInt (n := i) (by omega))).mpr z)
        refine lv_iload_n hx hb dX8_receiveBlock_28 rfl (lv_at hl 1 rfl) ?_
        refine lv_iload hx hb dX8_receiveBlock_29 (lv_at hl 4 rfl) ?_
        refine kPi (va_runS (As := [.int (nI (b)), .int (nI (i))]) (rest := []) ⟨hx, hb, hml, hown, hts⟩ (c_X8_pixelIn b i (by first | assumption | omega) (by first | assumption | omega)) (va_cwS 2 hts gX8_receiveBlock_X8_pixelIn rfl rfl rfl (by decide +kernel) ⟨Nat.le_of_ble_eq_true rfl, Nat.le_of_ble_eq_true rfl⟩) (preS hC hS hLo) rfl rfl hl.1 rfl (lv_room (Nat.le_of_ble_eq_true rfl)) dX8_receiveBlock_31 ⟨Nat.zero_le _, Nat.zero_le _⟩) hS (fun locs hS => ?_)
        have hpx := px_lt hb4 (by omega : i < 16)
        refine lv_istore (lv' := [(5, .int (nI (px b i))), (0, .ref (a 0)), (1, .int (nI (b))), (2, .int (nI (ki b))), (3, .int (nI (mo b))), (4, .int (nI (i)))]) hx hb dX8_receiveBlock_34 hl (by decide) rfl (fun ls hl => ?_)
        refine lv_iload_n hx hb dX8_receiveBlock_36 rfl (lv_at hl 3 rfl) ?_
        refine lv_if_ne (tgt := 68) hx hb dX8_receiveBlock_37 (by decide) (fun c_4 => ?_) (fun c_4 => ?_)
        · have f_5 : ¬ ((ki b : Nat) : Int) = (0 : Int) := fun z => c_4 ((c_eq (nI_toInt (n := ki b) (by omega)) rfl).mpr z)
          refine lv_aload_n hx hb dX8_receiveBlock_68 rfl (lv_at hl 1 rfl) ?_
          refine va_get (D := gD G) (cl := vwCl) (tys := tyl G) (ci := 7) (v := .ref (a 18)) (C := RX8) (T := TX8) (N := 8) hx hb hts (by decide +kernel) hown hC.K hP 0 rfl rfl 3 (by decide) (hts (.fieldLink RX8 33 "MotionPost" "before" "LMotionPost$Picture;") (by decide +kernel)) (fun _ h9 => h9) rfl dX8_receiveBlock_69 ?_
          have hmb := hmo b
          have hmd := mdn_in hmb
          have hmr := mrt_in (mo b)
          refine lv_iload hx hb dX8_receiveBlock_72 (lv_at hl 0 rfl) ?_
          refine lv_iload_n hx hb dX8_receiveBlock_74 rfl (lv_at hl 4 rfl) ?_
          refine kPi (va_runS (As := [.int (nI (mo b))]) (rest := [.int (nI (px b i)), .ref (a 18)]) ⟨hx, hb, hml, hown, hts⟩ (c_X8_downOf (mo b) (by first | assumption | omega)) (va_cwS 1 hts gX8_receiveBlock_X8_downOf rfl rfl rfl (by decide +kernel) ⟨Nat.le_of_ble_eq_true rfl, Nat.le_of_ble_eq_true rfl⟩) (preS hC hS hLo) rfl rfl hl.1 rfl (lv_room (Nat.le_of_ble_eq_true rfl)) dX8_receiveBlock_75 ⟨Nat.zero_le _, Nat.zero_le _⟩) hS (fun locs hS => ?_)
          refine lv_iload_n hx hb dX8_receiveBlock_78 rfl (lv_at hl 4 rfl) ?_
          refine kPi (va_runS (As := [.int (nI (mo b))]) (rest := [.int (iI (mdn (mo b))), .int (nI (px b i)), .ref (a 18)]) ⟨hx, hb, hml, hown, hts⟩ (c_X8_rightOf (mo b) (by first | assumption | omega)) (va_cwS 1 hts gX8_receiveBlock_X8_rightOf rfl rfl rfl (by decide +kernel) ⟨Nat.le_of_ble_eq_true rfl, Nat.le_of_ble_eq_true rfl⟩) (preS hC hS hLo) rfl rfl hl.1 rfl (lv_room (Nat.le_of_ble_eq_true rfl)) dX8_receiveBlock_79 ⟨Nat.zero_le _, Nat.zero_le _⟩) hS (fun locs hS => ?_)
          refine kPi (va_runVN (As := [.int (nI (px b i)), .int (iI (mdn (mo b))), .int (iI (mrt (mo b)))]) (rest := []) ⟨hx, hb, hml, hown, hts⟩ (c_X4_movedValueAt (a 18) (a 19) bf (px b i) (mdn (mo b)) (mrt (mo b)) (by first | assumption | omega) (by first | assumption | omega) (by first | assumption | omega) (hP.sub [18, 19] rfl)) ⟨va_cnB 3 hts gX8_receiveBlock_X4_movedValueAt_n286 rfl rfl rfl (hC.nest 59 rfl) (hts (.initialized RX4) (by decide +kernel)) (by decide +kernel) ⟨Nat.le_of_ble_eq_true rfl, Nat.le_of_ble_eq_true rfl⟩, (hts (.instanceMethod yX4_movedValueAt) (by decide +kernel)), (hts (.selects RX4 yX4_movedValueAt yX4_movedValueAt) (by decide +kernel))⟩ (preV hC hS hLo hP (ci := 3) (q0 := 18) rfl rfl) rfl rfl hl.1 rfl (lv_room (Nat.le_of_ble_eq_true rfl)) dX8_receiveBlock_82 ⟨Nat.zero_le _, Nat.zero_le _⟩) hS (fun locs hS => ?_)
          refine lv_aload_n hx hb dX8_receiveBlock_85 rfl (lv_at hl 1 rfl) ?_
          refine va_get (D := gD G) (cl := vwCl) (tys := tyl G) (ci := 7) (v := .ref (a 10)) (C := RX8) (T := TX8) (N := 8) hx hb hts (by decide +kernel) hown hC.K hP 0 rfl rfl 1 (by decide) (hts (.fieldLink RX8 19 "MotionPost" "plan" "LMotionPost$Plan;") (by decide +kernel)) (fun _ h9 => h9) rfl dX8_receiveBlock_86 ?_
          refine lv_iload hx hb dX8_receiveBlock_89 (lv_at hl 0 rfl) ?_
          refine kPi (va_runVN (As := [.int (nI (px b i))]) (rest := [.int (iI (bf (fr (px b i) (mdn (mo b)) (mrt (mo b)))))]) ⟨hx, hb, hml, hown, hts⟩ (c_X5_additionAt (a 10) (a 11) (a 12) (a 13) (a 14) (a 15) mo ki pr df co bi (px b i) (by first | assumption | omega) (by first | assumption | omega) (by first | assumption | omega) (hP.sub [10, 11, 12, 13, 14, 15] rfl)) ⟨va_cnB 1 hts gX8_receiveBlock_X5_additionAt_n274 rfl rfl rfl (hC.nest 60 rfl) (hts (.initialized RX5) (by decide +kernel)) (by decide +kernel) ⟨Nat.le_of_ble_eq_true rfl, Nat.le_of_ble_eq_true rfl⟩, (hts (.instanceMethod yX5_additionAt) (by decide +kernel)), (hts (.selects RX5 yX5_additionAt yX5_additionAt) (by decide +kernel))⟩ (preV hC hS hLo hP (ci := 4) (q0 := 10) rfl rfl) rfl rfl hl.1 rfl (lv_room (Nat.le_of_ble_eq_true rfl)) dX8_receiveBlock_91 ⟨Nat.zero_le _, Nat.zero_le _⟩) hS (fun locs hS => ?_)
          refine gAdd (z := iI ((bf (fr (px b i) (mdn (mo b)) (mrt (mo b)))) + ((co : Int) * lv (df (px b i)) co))) hx hb dX8_receiveBlock_94 (z_add rfl rfl) ?_
          have had := ad15 co (hdf (px b i))
          have hbb := hbf (fr (px b i) (mdn (mo b)) (mrt (mo b)))
          refine lv_istore (lv' := [(6, .int (iI ((bf (fr (px b i) (mdn (mo b)) (mrt (mo b)))) + ((co : Int) * lv (df (px b i)) co)))), (5, .int (nI (px b i))), (0, .ref (a 0)), (1, .int (nI (b))), (2, .int (nI (ki b))), (3, .int (nI (mo b))), (4, .int (nI (i)))]) hx hb dX8_receiveBlock_95 hl (by decide) rfl (fun ls hl => ?_)
          refine lv_aload_n hx hb dX8_receiveBlock_97 rfl (lv_at hl 2 rfl) ?_
          refine va_get (D := gD G) (cl := vwCl) (tys := tyl G) (ci := 7) (v := .ref (a 1)) (C := RX8) (T := TX8) (N := 8) hx hb hts (by decide +kernel) hown hC.K hP 0 rfl rfl 0 (by decide) (hts (.fieldLink RX8 12 "MotionPost" "now" "LMotionPost$State;") (by decide +kernel)) (fun _ h9 => h9) rfl dX8_receiveBlock_98 ?_
          refine va_getN (D := gD G) (cl := vwCl) (tys := tyl G) (ci := 6) (v := .ref (a 6)) (C := RX7) (T := TX7) (N := 10) (host := "MotionPost") (ref := "MotionPost$State") hx hb hts (by decide +kernel) hown hC.K hP 1 rfl rfl 2 (by decide) (hC.nestW 8 rfl rfl) (fun _ h9 => h9) rfl dX8_receiveBlock_101 ?_
          refine lv_iload hx hb dX8_receiveBlock_104 (lv_at hl 1 rfl) ?_
          refine lv_iconst (v := nI (0)) hx hb dX8_receiveBlock_106 (by decide) ?_
          refine lv_iload hx hb dX8_receiveBlock_107 (lv_at hl 0 rfl) ?_
          refine lv_bipush (v := nI (15)) hx hb dX8_receiveBlock_109 (by decide) ?_
          refine va_mmin hx hb (hml.trans hl.1.symm) hown (hts (.methodLink RX8 290 Lib.Math.min.name) (by decide +kernel)) (hts (.static Lib.Math.min.name) (by decide +kernel)) (hts (.initialized "java/lang/Math") (by decide +kernel)) (hts (.code Lib.Math.min.name Lib.Math.min.code 2 (some .int)) (by decide +kernel)) (Nat.le_of_ble_eq_true rfl) (Nat.le_of_ble_eq_true rfl) (Nat.zero_le _) (Nat.zero_le _) dX8_receiveBlock_111 ?_
          refine topE (v' := iI (min ((bf (fr (px b i) (mdn (mo b)) (mrt (mo b)))) + ((co : Int) * lv (df (px b i)) co)) (15 : Int))) (min_z rfl (nI_i (15)) (by omega) (by omega) (by omega) (by omega)) ?_
          refine va_mmax hx hb (hml.trans hl.1.symm) hown (hts (.methodLink RX8 293 Lib.Math.max.name) (by decide +kernel)) (hts (.static Lib.Math.max.name) (by decide +kernel)) (hts (.initialized "java/lang/Math") (by decide +kernel)) (hts (.code Lib.Math.max.name Lib.Math.max.code 2 (some .int)) (by decide +kernel)) (Nat.le_of_ble_eq_true rfl) (Nat.le_of_ble_eq_true rfl) (Nat.zero_le _) (Nat.zero_le _) dX8_receiveBlock_114 ?_
          refine topE (v' := iI (rvS v.1 bf df co (ki b) (mo b) (px b i))) ((max_z (nI_i (0)) rfl (by omega) (by omega) (by omega) (by omega)).trans (congrArg iI (rvS_n (by omega)))) ?_
          refine kMi (va_runVN (As := [.int (nI (px b i)), .int (iI (rvS v.1 bf df co (ki b) (mo b) (px b i)))]) (rest := []) ⟨hx, hb, hml, hown, hts⟩ (c_X4_put (a 6) (a 7) (snS (rvS v.1 bf df co (ki b) (mo b)) v.2.2.1 b i) (px b i) (rvS v.1 bf df co (ki b) (mo b) (px b i)) (by first | assumption | omega) (hP.sub [6, 7] rfl) ((hD.sub [6, 7] (by decide) rfl).weaken (fun _ _ _ h => hLo _ h))) ⟨va_cnB 2 hts gX8_receiveBlock_X4_put_n76 rfl rfl rfl (hC.nest 53 rfl) (hts (.initialized RX4) (by decide +kernel)) (by decide +kernel) ⟨Nat.le_of_ble_eq_true rfl, Nat.le_of_ble_eq_true rfl⟩, (hts (.instanceMethod yX4_put) (by decide +kernel)), (hts (.selects RX4 yX4_put yX4_put) (by decide +kernel))⟩ (preV hC hS hLo hP (ci := 3) (q0 := 6) rfl rfl) rfl rfl hl.1 rfl (lv_room (Nat.le_of_ble_eq_true rfl)) dX8_receiveBlock_117 ⟨Nat.zero_le _, Nat.zero_le _⟩) hP hD hS hA [6, 7] (by decide) rfl (fun _ => rfl) (fun r_8 u_6 H locs q_7 hP hD hS => ?_)
          have hP : PP G (y3W G a (v.1, v.2.1, va_up (snS (rvS v.1 bf df co (ki b) (mo b)) v.2.2.1 b i) (px b i) (rvS v.1 bf df co (ki b) (mo b) (px b i)), v.2.2.2.1, v.2.2.2.2.1, v.2.2.2.2.2.1, v.2.2.2.2.2.2.1, v.2.2.2.2.2.2.2.1, v.2.2.2.2.2.2.2.2.1, v.2.2.2.2.2.2.2.2.2) mo ki pr df (nI (co)) bi g9 lr bf tn ln) H := hP
          have hD : va_D A (y3W G a (v.1, v.2.1, va_up (snS (rvS v.1 bf df co (ki b) (mo b)) v.2.2.1 b i) (px b i) (rvS v.1 bf df co (ki b) (mo b) (px b i)), v.2.2.2.1, v.2.2.2.2.1, v.2.2.2.2.2.1, v.2.2.2.2.2.2.1, v.2.2.2.2.2.2.2.1, v.2.2.2.2.2.2.2.2.1, v.2.2.2.2.2.2.2.2.2) mo ki pr df (nI (co)) bi g9 lr bf tn ln) := hD
          refine topE (v' := iI ((snS (rvS v.1 bf df co (ki b) (mo b)) v.2.2.1 b i) (px b i))) (q_7) ?_
          refine lv_pop hx hb dX8_receiveBlock_120 rfl ?_
          refine lv_iinc (v := nI (i + 1)) (lv' := [(4, .int (nI (i + 1))), (6, .int (iI ((bf (fr (px b i) (mdn (mo b)) (mrt (mo b)))) + ((co : Int) * lv (df (px b i)) co)))), (5, .int (nI (px b i))), (0, .ref (a 0)), (1, .int (nI (b))), (2, .int (nI (ki b))), (3, .int (nI (mo b)))]) hx hb dX8_receiveBlock_121 hl (k := 6) rfl (inc_p i 1) (by decide) rfl (fun ls hl => ?_)
          refine lv_goto (tgt := 21) hx hb dX8_receiveBlock_124 (by decide) ?_
          exact ih_21 (i + 1) (by omega) (by omega) H locs ls hP hD hS (lv_sub hl [3, 4, 5, 6, 0] ((lvc rfl (lvc rfl (lvc rfl (lvc rfl (lvc rfl rfl)))))))
        · have f_9 : ((ki b : Nat) : Int) = (0 : Int) := (c_eq (nI_toInt (n := ki b) (by omega)) rfl).mp c_4
          refine lv_aload_n hx hb dX8_receiveBlock_40 rfl (lv_at hl 1 rfl) ?_
          refine va_get (D := gD G) (cl := vwCl) (tys := tyl G) (ci := 7) (v := .ref (a 1)) (C := RX8) (T := TX8) (N := 8) hx hb hts (by decide +kernel) hown hC.K hP 0 rfl rfl 0 (by decide) (hts (.fieldLink RX8 12 "MotionPost" "now" "LMotionPost$State;") (by decide +kernel)) (fun _ h9 => h9) rfl dX8_receiveBlock_41 ?_
          refine va_getN (D := gD G) (cl := vwCl) (tys := tyl G) (ci := 6) (v := .ref (a 6)) (C := RX7) (T := TX7) (N := 10) (host := "MotionPost") (ref := "MotionPost$State") hx hb hts (by decide +kernel) hown hC.K hP 1 rfl rfl 2 (by decide) (hC.nestW 8 rfl rfl) (fun _ h9 => h9) rfl dX8_receiveBlock_44 ?_
          refine lv_iload hx hb dX8_receiveBlock_47 (lv_at hl 0 rfl) ?_
          refine lv_aload_n hx hb dX8_receiveBlock_49 rfl (lv_at hl 1 rfl) ?_
          refine va_get (D := gD G) (cl := vwCl) (tys := tyl G) (ci := 7) (v := .ref (a 1)) (C := RX8) (T := TX8) (N := 8) hx hb hts (by decide +kernel) hown hC.K hP 0 rfl rfl 0 (by decide) (hts (.fieldLink RX8 12 "MotionPost" "now" "LMotionPost$State;") (by decide +kernel)) (fun _ h9 => h9) rfl dX8_receiveBlock_50 ?_
          refine va_getN (D := gD G) (cl := vwCl) (tys := tyl G) (ci := 6) (v := .ref (a 2)) (C := RX7) (T := TX7) (N := 10) (host := "MotionPost") (ref := "MotionPost$State") hx hb hts (by decide +kernel) hown hC.K hP 1 rfl rfl 0 (by decide) (hC.nestW 2 rfl rfl) (fun _ h9 => h9) rfl dX8_receiveBlock_53 ?_
          refine lv_iload hx hb dX8_receiveBlock_56 (lv_at hl 0 rfl) ?_
          refine kPi (va_runVN (As := [.int (nI (px b i))]) (rest := [.int (nI (px b i)), .ref (a 6)]) ⟨hx, hb, hml, hown, hts⟩ (c_X4_valueAt (a 2) (a 3) v.1 (px b i) (by first | assumption | omega) (hP.sub [2, 3] rfl)) ⟨va_cnB 1 hts gX8_receiveBlock_X4_valueAt_n109 rfl rfl rfl (hC.nest 33 rfl) (hts (.initialized RX4) (by decide +kernel)) (by decide +kernel) ⟨Nat.le_of_ble_eq_true rfl, Nat.le_of_ble_eq_true rfl⟩, (hts (.instanceMethod yX4_valueAt) (by decide +kernel)), (hts (.selects RX4 yX4_valueAt yX4_valueAt) (by decide +kernel))⟩ (preV hC hS hLo hP (ci := 3) (q0 := 2) rfl rfl) rfl rfl hl.1 rfl (lv_room (Nat.le_of_ble_eq_true rfl)) dX8_receiveBlock_58 ⟨Nat.zero_le _, Nat.zero_le _⟩) hS (fun locs hS => ?_)
          refine topE (v' := iI (rvS v.1 bf df co (ki b) (mo b) (px b i))) (congrArg iI (rvS_0 (by omega))) ?_
          refine kMi (va_runVN (As := [.int (nI (px b i)), .int (iI (rvS v.1 bf df co (ki b) (mo b) (px b i)))]) (rest := []) ⟨hx, hb, hml, hown, hts⟩ (c_X4_put (a 6) (a 7) (snS (rvS v.1 bf df co (ki b) (mo b)) v.2.2.1 b i) (px b i) (rvS v.1 bf df co (ki b) (mo b) (px b i)) (by first | assumption | omega) (hP.sub [6, 7] rfl) ((hD.sub [6, 7] (by decide) rfl).weaken (fun _ _ _ h => hLo _ h))) ⟨va_cnB 2 hts gX8_receiveBlock_X4_put_n76 rfl rfl rfl (hC.nest 53 rfl) (hts (.initialized RX4) (by decide +kernel)) (by decide +kernel) ⟨Nat.le_of_ble_eq_true rfl, Nat.le_of_ble_eq_true rfl⟩, (hts (.instanceMethod yX4_put) (by decide +kernel)), (hts (.selects RX4 yX4_put yX4_put) (by decide +kernel))⟩ (preV hC hS hLo hP (ci := 3) (q0 := 6) rfl rfl) rfl rfl hl.1 rfl (lv_room (Nat.le_of_ble_eq_true rfl)) dX8_receiveBlock_61 ⟨Nat.zero_le _, Nat.zero_le _⟩) hP hD hS hA [6, 7] (by decide) rfl (fun _ => rfl) (fun r_12 u_10 H locs q_11 hP hD hS => ?_)
          have hP : PP G (y3W G a (v.1, v.2.1, va_up (snS (rvS v.1 bf df co (ki b) (mo b)) v.2.2.1 b i) (px b i) (rvS v.1 bf df co (ki b) (mo b) (px b i)), v.2.2.2.1, v.2.2.2.2.1, v.2.2.2.2.2.1, v.2.2.2.2.2.2.1, v.2.2.2.2.2.2.2.1, v.2.2.2.2.2.2.2.2.1, v.2.2.2.2.2.2.2.2.2) mo ki pr df (nI (co)) bi g9 lr bf tn ln) H := hP
          have hD : va_D A (y3W G a (v.1, v.2.1, va_up (snS (rvS v.1 bf df co (ki b) (mo b)) v.2.2.1 b i) (px b i) (rvS v.1 bf df co (ki b) (mo b) (px b i)), v.2.2.2.1, v.2.2.2.2.1, v.2.2.2.2.2.1, v.2.2.2.2.2.2.1, v.2.2.2.2.2.2.2.1, v.2.2.2.2.2.2.2.2.1, v.2.2.2.2.2.2.2.2.2) mo ki pr df (nI (co)) bi g9 lr bf tn ln) := hD
          refine topE (v' := iI ((snS (rvS v.1 bf df co (ki b) (mo b)) v.2.2.1 b i) (px b i))) (q_11) ?_
          refine lv_pop hx hb dX8_receiveBlock_64 rfl ?_
          refine lv_goto (tgt := 121) hx hb dX8_receiveBlock_65 (by decide) ?_
          refine lv_iinc (v := nI (i + 1)) (lv' := [(4, .int (nI (i + 1))), (5, .int (nI (px b i))), (0, .ref (a 0)), (1, .int (nI (b))), (2, .int (nI (ki b))), (3, .int (nI (mo b)))]) hx hb dX8_receiveBlock_121 hl (k := 5) rfl (inc_p i 1) (by decide) rfl (fun ls hl => ?_)
          refine lv_goto (tgt := 21) hx hb dX8_receiveBlock_124 (by decide) ?_
          exact ih_21 (i + 1) (by omega) (by omega) H locs ls hP hD hS (lv_sub hl [2, 3, 4, 5, 0] ((lvc rfl (lvc rfl (lvc rfl (lvc rfl (lvc rfl rfl)))))))
  exact L_21 (16 + 1) 0 (Nat.lt_succ_self _) (by omega) s.heap locs ls hP hD hS (lv_sub hl [3, 4, 2, 1, 0] (lvc rfl (lvc rfl (lvc rfl (lvc rfl (lvc rfl rfl))))))

set_option maxHeartbeats 4000000 in
set_option maxRecDepth 100000 in
theorem c_X8_receiveBlock_k {l : Launch} {G : GT} {H0 : Heap} (a : Nat → Nat) (v : SVT) (mo ki : Nat → Nat) (pr df : Nat → Int) (co : Int32) (bi : Nat) (g9 : Nat → Int32) (lr : Nat) (bf : Nat → Int) (tn : Nat → Nat) (ln : Nat) (b : Nat) (hb4 : b < 4) (hraw : ki b = 0) (hP0 : PP G (y3W G a v mo ki pr df co bi g9 lr bf tn ln) H0) (hB0 : va_D (lo G) (y3W G a v mo ki pr df co bi g9 lr bf tn ln)) : Met l yX8_receiveBlock wsX8_receiveBlock ({ frames := 1, cells := 0, slots := 0, locals := 23 } : Room) (pcG G [.ref (a 0), .int (nI (b))] H0) (qMv G (fun (u : Unit) => u = ()) (fun (u : Unit) => y3W G a (v.1, v.2.1, snS v.1 v.2.2.1 b 16, v.2.2.2.1, v.2.2.2.2.1, v.2.2.2.2.2.1, v.2.2.2.2.2.2.1, v.2.2.2.2.2.2.2.1, v.2.2.2.2.2.2.2.2.1, v.2.2.2.2.2.2.2.2.2) mo ki pr df co bi g9 lr bf tn ln) (y3W G a v mo ki pr df co bi g9 lr bf tn ln) H0) 0 0 (va_A (y3W G a v mo ki pr df co bi g9 lr bf tn ln) H0.size) := by
  refine enter (cc := cX8_receiveBlock) (maxL := 7) (ret := none) (own := RX8) (lv := [(0, .ref (a 0)), (1, .int (nI (b)))]) (by decide) rfl rfl rfl (Nat.le_of_ble_eq_true rfl) ?_
  intro pg ev s m below meth c hx hb hr hts hown hlocks hml hnm hH hC ls hl
  subst hH
  have hLo := va_freeB hB0 hC.2.2.2.1
  have hD := hB0.self (sz := s.heap.size)
  have hS : va_S (va_A (y3W G a v mo ki pr df co bi g9 lr bf tn ln) s.heap.size) s.heap s.heap [] := va_S.rf
  unfold qMv
  generalize hAe : va_A (y3W G a v mo ki pr df co bi g9 lr bf tn ln) s.heap.size = A at hD hLo hS ⊢
  have hA : ∀ q, s.heap.size ≤ q → A q := fun q h => by rw [← hAe]; exact Or.inr h
  generalize ([] : List Loc) = locs at hS ⊢
  have hP := hP0
  refine lv_aload_n hx hb dX8_receiveBlock_0 rfl (lv_at hl 0 rfl) ?_
  refine va_get (D := gD G) (cl := vwCl) (tys := tyl G) (ci := 7) (v := .ref (a 10)) (C := RX8) (T := TX8) (N := 8) hx hb hts (by decide +kernel) hown hC.K hP 0 rfl rfl 1 (by decide) (hts (.fieldLink RX8 19 "MotionPost" "plan" "LMotionPost$Plan;") (by decide +kernel)) (fun _ h9 => h9) rfl dX8_receiveBlock_1 ?_
  refine lv_iload_n hx hb dX8_receiveBlock_4 rfl (lv_at hl 1 rfl) ?_
  refine kPi (va_runVN (As := [.int (nI (b))]) (rest := []) ⟨hx, hb, hml, hown, hts⟩ (c_X5_kindOf (a 10) (a 11) (a 12) (a 13) (a 14) (a 15) mo ki pr df co bi b (by first | assumption | omega) (hP.sub [10, 11, 12, 13, 14, 15] rfl)) ⟨va_cnB 1 hts gX8_receiveBlock_X5_kindOf_n158 rfl rfl rfl (hC.nest 57 rfl) (hts (.initialized RX5) (by decide +kernel)) (by decide +kernel) ⟨Nat.le_of_ble_eq_true rfl, Nat.le_of_ble_eq_true rfl⟩, (hts (.instanceMethod yX5_kindOf) (by decide +kernel)), (hts (.selects RX5 yX5_kindOf yX5_kindOf) (by decide +kernel))⟩ (preV hC hS hLo hP (ci := 4) (q0 := 10) rfl rfl) rfl rfl hl.1 rfl (lv_room (Nat.le_of_ble_eq_true rfl)) dX8_receiveBlock_5 ⟨Nat.zero_le _, Nat.zero_le _⟩) hS (fun locs hS => ?_)
  refine lv_istore_n (lv' := [(2, .int (nI (ki b))), (0, .ref (a 0)), (1, .int (nI (b)))]) hx hb dX8_receiveBlock_8 rfl hl (by decide) rfl (fun ls hl => ?_)
  refine lv_aload_n hx hb dX8_receiveBlock_9 rfl (lv_at hl 1 rfl) ?_
  refine va_get (D := gD G) (cl := vwCl) (tys := tyl G) (ci := 7) (v := .ref (a 10)) (C := RX8) (T := TX8) (N := 8) hx hb hts (by decide +kernel) hown hC.K hP 0 rfl rfl 1 (by decide) (hts (.fieldLink RX8 19 "MotionPost" "plan" "LMotionPost$Plan;") (by decide +kernel)) (fun _ h9 => h9) rfl dX8_receiveBlock_10 ?_
  refine lv_iload_n hx hb dX8_receiveBlock_13 rfl (lv_at hl 2 rfl) ?_
  refine kPi (va_runVN (As := [.int (nI (b))]) (rest := []) ⟨hx, hb, hml, hown, hts⟩ (c_X5_moveOf (a 10) (a 11) (a 12) (a 13) (a 14) (a 15) mo ki pr df co bi b (by first | assumption | omega) (hP.sub [10, 11, 12, 13, 14, 15] rfl)) ⟨va_cnB 1 hts gX8_receiveBlock_X5_moveOf_n265 rfl rfl rfl (hC.nest 58 rfl) (hts (.initialized RX5) (by decide +kernel)) (by decide +kernel) ⟨Nat.le_of_ble_eq_true rfl, Nat.le_of_ble_eq_true rfl⟩, (hts (.instanceMethod yX5_moveOf) (by decide +kernel)), (hts (.selects RX5 yX5_moveOf yX5_moveOf) (by decide +kernel))⟩ (preV hC hS hLo hP (ci := 4) (q0 := 10) rfl rfl) rfl rfl hl.1 rfl (lv_room (Nat.le_of_ble_eq_true rfl)) dX8_receiveBlock_14 ⟨Nat.zero_le _, Nat.zero_le _⟩) hS (fun locs hS => ?_)
  refine lv_istore_n (lv' := [(3, .int (nI (mo b))), (2, .int (nI (ki b))), (0, .ref (a 0)), (1, .int (nI (b)))]) hx hb dX8_receiveBlock_17 rfl hl (by decide) rfl (fun ls hl => ?_)
  refine lv_iconst (v := nI (0)) hx hb dX8_receiveBlock_18 (by decide) ?_
  refine lv_istore (lv' := [(4, .int (nI (0))), (3, .int (nI (mo b))), (2, .int (nI (ki b))), (0, .ref (a 0)), (1, .int (nI (b)))]) hx hb dX8_receiveBlock_19 hl (by decide) rfl (fun ls hl => ?_)
  have L_21 : ∀ (n_21 : Nat) (i : Nat), 16 - i < n_21 → (i ≤ 16) → ∀ (H : Heap) (locs : List Loc) (ls : Array Slot), PP G (y3W G a (v.1, v.2.1, snS v.1 v.2.2.1 b i, v.2.2.2.1, v.2.2.2.2.1, v.2.2.2.2.2.1, v.2.2.2.2.2.2.1, v.2.2.2.2.2.2.2.1, v.2.2.2.2.2.2.2.2.1, v.2.2.2.2.2.2.2.2.2) mo ki pr df co bi g9 lr bf tn ln) H → va_D A (y3W G a (v.1, v.2.1, snS v.1 v.2.2.1 b i, v.2.2.2.1, v.2.2.2.2.1, v.2.2.2.2.2.1, v.2.2.2.2.2.2.1, v.2.2.2.2.2.2.2.1, v.2.2.2.2.2.2.2.2.1, v.2.2.2.2.2.2.2.2.2) mo ki pr df co bi g9 lr bf tn ln) → va_S A s.heap H locs → lv_has ls 7 [(0, .ref (a 0)), (1, .int (nI (b))), (2, .int (nI (ki b))), (3, .int (nI (mo b))), (4, .int (nI (i)))] → W pg l ev ({ frames := 1, cells := 0, slots := 0, locals := 23 } : Room) s m (([.ref (a 0), .int (nI (b))] : List Value).toArray) below meth c H locs 0 0 (MQ below (va_Qv (fun (u : Unit) => u = ()) (fun (u : Unit) t9 => PP G (y3W G a (v.1, v.2.1, snS v.1 v.2.2.1 b 16, v.2.2.2.1, v.2.2.2.2.1, v.2.2.2.2.2.1, v.2.2.2.2.2.2.1, v.2.2.2.2.2.2.2.1, v.2.2.2.2.2.2.2.2.1, v.2.2.2.2.2.2.2.2.2) mo ki pr df co bi g9 lr bf tn ln) t9.heap) A) (([.ref (a 0), .int (nI (b))] : List Value).toArray) s 0 0 A) (F0 m 21 ls []) := by
    intro n_21
    induction n_21 with
    | zero => intro i hn; exact absurd hn (Nat.not_lt_zero _)
    | succ n_21 ih_21 =>
      intro i hn_21 hi9 H locs ls hP hD hS hl
      refine lv_iload hx hb dX8_receiveBlock_21 (lv_at hl 4 rfl) ?_
      refine lv_bipush (v := nI (16)) hx hb dX8_receiveBlock_23 (by decide) ?_
      refine lv_icmp_ge (tgt := 127) hx hb dX8_receiveBlock_25 (by decide) (fun c_1 => ?_) (fun c_1 => ?_)
      · have f_2 : (16 : Int) ≤ ((i : Nat) : Int) := (c_le (nI_toInt (n := 16) (by omega)) (nI_toInt (n := i) (by omega))).mp c_1
        have e_i : i = 16 := by omega
        replace e_i := e_i.symm
        subst e_i
        exact xMv (G := G) (post := (fun (u : Unit) => u = ())) (w1 := (fun (u : Unit) => y3W G a (v.1, v.2.1, snS v.1 v.2.2.1 b 16, v.2.2.2.1, v.2.2.2.2.1, v.2.2.2.2.2.1, v.2.2.2.2.2.2.1, v.2.2.2.2.2.2.2.1, v.2.2.2.2.2.2.2.2.1, v.2.2.2.2.2.2.2.2.2) mo ki pr df co bi g9 lr bf tn ln)) (()) hx hb hr hlocks hP hS (by exact rfl) dX8_receiveBlock_127
      · have f_3 : ¬ (16 : Int) ≤ ((i : Nat) : Int) := fun z => c_1 ((c_le (nI_toInt (n := 16) (by omega)) (nI_toInt (n := i) (by omega))).mpr z)
        refine lv_iload_n hx hb dX8_receiveBlock_28 rfl (lv_at hl 1 rfl) ?_
        refine lv_iload hx hb dX8_receiveBlock_29 (lv_at hl 4 rfl) ?_
        refine kPi (va_runS (As := [.int (nI (b)), .int (nI (i))]) (rest := []) ⟨hx, hb, hml, hown, hts⟩ (c_X8_pixelIn b i (by first | assumption | omega) (by first | assumption | omega)) (va_cwS 2 hts gX8_receiveBlock_X8_pixelIn rfl rfl rfl (by decide +kernel) ⟨Nat.le_of_ble_eq_true rfl, Nat.le_of_ble_eq_true rfl⟩) (preS hC hS hLo) rfl rfl hl.1 rfl (lv_room (Nat.le_of_ble_eq_true rfl)) dX8_receiveBlock_31 ⟨Nat.zero_le _, Nat.zero_le _⟩) hS (fun locs hS => ?_)
        have hpx := px_lt hb4 (by omega : i < 16)
        refine lv_istore (lv' := [(5, .int (nI (px b i))), (0, .ref (a 0)), (1, .int (nI (b))), (2, .int (nI (ki b))), (3, .int (nI (mo b))), (4, .int (nI (i)))]) hx hb dX8_receiveBlock_34 hl (by decide) rfl (fun ls hl => ?_)
        refine lv_iload_n hx hb dX8_receiveBlock_36 rfl (lv_at hl 3 rfl) ?_
        refine lv_if_ne (tgt := 68) hx hb dX8_receiveBlock_37 (by decide) (fun c_4 => ?_) (fun c_4 => ?_)
        · have f_5 : ¬ ((ki b : Nat) : Int) = (0 : Int) := fun z => c_4 ((c_eq (nI_toInt (n := ki b) (by omega)) rfl).mpr z)
          exfalso; omega
        · have f_6 : ((ki b : Nat) : Int) = (0 : Int) := (c_eq (nI_toInt (n := ki b) (by omega)) rfl).mp c_4
          refine lv_aload_n hx hb dX8_receiveBlock_40 rfl (lv_at hl 1 rfl) ?_
          refine va_get (D := gD G) (cl := vwCl) (tys := tyl G) (ci := 7) (v := .ref (a 1)) (C := RX8) (T := TX8) (N := 8) hx hb hts (by decide +kernel) hown hC.K hP 0 rfl rfl 0 (by decide) (hts (.fieldLink RX8 12 "MotionPost" "now" "LMotionPost$State;") (by decide +kernel)) (fun _ h9 => h9) rfl dX8_receiveBlock_41 ?_
          refine va_getN (D := gD G) (cl := vwCl) (tys := tyl G) (ci := 6) (v := .ref (a 6)) (C := RX7) (T := TX7) (N := 10) (host := "MotionPost") (ref := "MotionPost$State") hx hb hts (by decide +kernel) hown hC.K hP 1 rfl rfl 2 (by decide) (hC.nestW 8 rfl rfl) (fun _ h9 => h9) rfl dX8_receiveBlock_44 ?_
          refine lv_iload hx hb dX8_receiveBlock_47 (lv_at hl 0 rfl) ?_
          refine lv_aload_n hx hb dX8_receiveBlock_49 rfl (lv_at hl 1 rfl) ?_
          refine va_get (D := gD G) (cl := vwCl) (tys := tyl G) (ci := 7) (v := .ref (a 1)) (C := RX8) (T := TX8) (N := 8) hx hb hts (by decide +kernel) hown hC.K hP 0 rfl rfl 0 (by decide) (hts (.fieldLink RX8 12 "MotionPost" "now" "LMotionPost$State;") (by decide +kernel)) (fun _ h9 => h9) rfl dX8_receiveBlock_50 ?_
          refine va_getN (D := gD G) (cl := vwCl) (tys := tyl G) (ci := 6) (v := .ref (a 2)) (C := RX7) (T := TX7) (N := 10) (host := "MotionPost") (ref := "MotionPost$State") hx hb hts (by decide +kernel) hown hC.K hP 1 rfl rfl 0 (by decide) (hC.nestW 2 rfl rfl) (fun _ h9 => h9) rfl dX8_receiveBlock_53 ?_
          refine lv_iload hx hb dX8_receiveBlock_56 (lv_at hl 0 rfl) ?_
          refine kPi (va_runVN (As := [.int (nI (px b i))]) (rest := [.int (nI (px b i)), .ref (a 6)]) ⟨hx, hb, hml, hown, hts⟩ (c_X4_valueAt (a 2) (a 3) v.1 (px b i) (by first | assumption | omega) (hP.sub [2, 3] rfl)) ⟨va_cnB 1 hts gX8_receiveBlock_X4_valueAt_n109 rfl rfl rfl (hC.nest 33 rfl) (hts (.initialized RX4) (by decide +kernel)) (by decide +kernel) ⟨Nat.le_of_ble_eq_true rfl, Nat.le_of_ble_eq_true rfl⟩, (hts (.instanceMethod yX4_valueAt) (by decide +kernel)), (hts (.selects RX4 yX4_valueAt yX4_valueAt) (by decide +kernel))⟩ (preV hC hS hLo hP (ci := 3) (q0 := 2) rfl rfl) rfl rfl hl.1 rfl (lv_room (Nat.le_of_ble_eq_true rfl)) dX8_receiveBlock_58 ⟨Nat.zero_le _, Nat.zero_le _⟩) hS (fun locs hS => ?_)
          refine kMi (va_runVN (As := [.int (nI (px b i)), .int (iI (v.1 (px b i)))]) (rest := []) ⟨hx, hb, hml, hown, hts⟩ (c_X4_put (a 6) (a 7) (snS v.1 v.2.2.1 b i) (px b i) (v.1 (px b i)) (by first | assumption | omega) (hP.sub [6, 7] rfl) ((hD.sub [6, 7] (by decide) rfl).weaken (fun _ _ _ h => hLo _ h))) ⟨va_cnB 2 hts gX8_receiveBlock_X4_put_n76 rfl rfl rfl (hC.nest 53 rfl) (hts (.initialized RX4) (by decide +kernel)) (by decide +kernel) ⟨Nat.le_of_ble_eq_true rfl, Nat.le_of_ble_eq_true rfl⟩, (hts (.instanceMethod yX4_put) (by decide +kernel)), (hts (.selects RX4 yX4_put yX4_put) (by decide +kernel))⟩ (preV hC hS hLo hP (ci := 3) (q0 := 6) rfl rfl) rfl rfl hl.1 rfl (lv_room (Nat.le_of_ble_eq_true rfl)) dX8_receiveBlock_61 ⟨Nat.zero_le _, Nat.zero_le _⟩) hP hD hS hA [6, 7] (by decide) rfl (fun _ => rfl) (fun r_9 u_7 H locs q_8 hP hD hS => ?_)
          have hP : PP G (y3W G a (v.1, v.2.1, va_up (snS v.1 v.2.2.1 b i) (px b i) (v.1 (px b i)), v.2.2.2.1, v.2.2.2.2.1, v.2.2.2.2.2.1, v.2.2.2.2.2.2.1, v.2.2.2.2.2.2.2.1, v.2.2.2.2.2.2.2.2.1, v.2.2.2.2.2.2.2.2.2) mo ki pr df co bi g9 lr bf tn ln) H := hP
          have hD : va_D A (y3W G a (v.1, v.2.1, va_up (snS v.1 v.2.2.1 b i) (px b i) (v.1 (px b i)), v.2.2.2.1, v.2.2.2.2.1, v.2.2.2.2.2.1, v.2.2.2.2.2.2.1, v.2.2.2.2.2.2.2.1, v.2.2.2.2.2.2.2.2.1, v.2.2.2.2.2.2.2.2.2) mo ki pr df co bi g9 lr bf tn ln) := hD
          refine topE (v' := iI ((snS v.1 v.2.2.1 b i) (px b i))) (q_8) ?_
          refine lv_pop hx hb dX8_receiveBlock_64 rfl ?_
          refine lv_goto (tgt := 121) hx hb dX8_receiveBlock_65 (by decide) ?_
          refine lv_iinc (v := nI (i + 1)) (lv' := [(4, .int (nI (i + 1))), (5, .int (nI (px b i))), (0, .ref (a 0)), (1, .int (nI (b))), (2, .int (nI (ki b))), (3, .int (nI (mo b)))]) hx hb dX8_receiveBlock_121 hl (k := 5) rfl (inc_p i 1) (by decide) rfl (fun ls hl => ?_)
          refine lv_goto (tgt := 21) hx hb dX8_receiveBlock_124 (by decide) ?_
          exact ih_21 (i + 1) (by omega) (by omega) H locs ls hP hD hS (lv_sub hl [2, 3, 4, 5, 0] ((lvc rfl (lvc rfl (lvc rfl (lvc rfl (lvc rfl rfl)))))))
  exact L_21 (16 + 1) 0 (Nat.lt_succ_self _) (by omega) s.heap locs ls hP hD hS (lv_sub hl [3, 4, 2, 1, 0] (lvc rfl (lvc rfl (lvc rfl (lvc rfl (lvc rfl rfl))))))
