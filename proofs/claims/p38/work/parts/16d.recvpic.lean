set_option maxHeartbeats 4000000 in
set_option maxRecDepth 100000 in
theorem c_X8_receivePicture {l : Launch} {G : GT} {H0 : Heap} (a : Nat → Nat) (v : SVT) (mo ki : Nat → Nat) (pr df : Nat → Int) (co bi : Nat) (g9 : Nat → Int32) (lr : Nat) (bf : Nat → Int) (tn : Nat → Nat) (ln : Nat) (hq : 1 ≤ co ∧ co ≤ 8) (hdf : D15 df) (hmo : M25 mo) (hg : R15 v.2.2.1) (hki : ∀ b, ki b ≤ 2) (hP0 : PP G (y3W G a v mo ki pr df (nI (co)) bi g9 lr bf tn ln) H0) (hB0 : va_D (lo G) (y3W G a v mo ki pr df (nI (co)) bi g9 lr bf tn ln)) : Met l yX8_receivePicture wsX8_receivePicture ({ frames := 3, cells := 0, slots := 0, locals := 69 } : Room) (pcG G [.ref (a 0)] H0) (qMv G (fun (u : Unit) => u = ()) (fun (u : Unit) => y3W G a (v.1, v.2.1, sdP (fun b => rvS v.1 v.2.2.1 df co (ki b) (mo b)) v.2.2.1 4, v.2.2.2.1, v.2.2.2.2.1, v.2.2.2.2.2.1, v.2.2.2.2.2.2.1, v.2.2.2.2.2.2.2.1, v.2.2.2.2.2.2.2.2.1, v.2.2.2.2.2.2.2.2.2) mo ki pr df (nI (co)) bi g9 lr v.2.2.1 tn ln) (y3W G a v mo ki pr df (nI (co)) bi g9 lr bf tn ln) H0) 0 0 (va_A (y3W G a v mo ki pr df (nI (co)) bi g9 lr bf tn ln) H0.size) := by
  refine enter (cc := cX8_receivePicture) (maxL := 2) (ret := none) (own := RX8) (lv := [(0, .ref (a 0))]) (by decide) rfl rfl rfl (Nat.le_of_ble_eq_true rfl) ?_
  intro pg ev s m below meth c hx hb hr hts hown hlocks hml hnm hH hC ls hl
  subst hH
  have hLo := va_freeB hB0 hC.2.2.2.1
  have hD := hB0.self (sz := s.heap.size)
  have hS : va_S (va_A (y3W G a v mo ki pr df (nI (co)) bi g9 lr bf tn ln) s.heap.size) s.heap s.heap [] := va_S.rf
  unfold qMv
  generalize hAe : va_A (y3W G a v mo ki pr df (nI (co)) bi g9 lr bf tn ln) s.heap.size = A at hD hLo hS ⊢
  have hA : ∀ q, s.heap.size ≤ q → A q := fun q h => by rw [← hAe]; exact Or.inr h
  generalize ([] : List Loc) = locs at hS ⊢
  have hP := hP0
  refine lv_aload_n hx hb dX8_receivePicture_0 rfl (lv_at hl 0 rfl) ?_
  refine va_get (D := gD G) (cl := vwCl) (tys := tyl G) (ci := 7) (v := .ref (a 18)) (C := RX8) (T := TX8) (N := 8) hx hb hts (by decide +kernel) hown hC.K hP 0 rfl rfl 3 (by decide) (hts (.fieldLink RX8 33 "MotionPost" "before" "LMotionPost$Picture;") (by decide +kernel)) (fun _ h9 => h9) rfl dX8_receivePicture_1 ?_
  refine lv_aload_n hx hb dX8_receivePicture_4 rfl (lv_at hl 0 rfl) ?_
  refine va_get (D := gD G) (cl := vwCl) (tys := tyl G) (ci := 7) (v := .ref (a 1)) (C := RX8) (T := TX8) (N := 8) hx hb hts (by decide +kernel) hown hC.K hP 0 rfl rfl 0 (by decide) (hts (.fieldLink RX8 12 "MotionPost" "now" "LMotionPost$State;") (by decide +kernel)) (fun _ h9 => h9) rfl dX8_receivePicture_5 ?_
  refine va_getN (D := gD G) (cl := vwCl) (tys := tyl G) (ci := 6) (v := .ref (a 6)) (C := RX7) (T := TX7) (N := 10) (host := "MotionPost") (ref := "MotionPost$State") hx hb hts (by decide +kernel) hown hC.K hP 1 rfl rfl 2 (by decide) (hC.nestW 8 rfl rfl) (fun _ h9 => h9) rfl dX8_receivePicture_8 ?_
  refine kMv (va_runVN (As := [.ref (a 6)]) (rest := []) ⟨hx, hb, hml, hown, hts⟩ (c_X4_copyFrom (a 18) (a 19) bf (a 6) (a 7) v.2.2.1 (hP.sub [18, 19, 6, 7] rfl) ((hD.sub [18, 19, 6, 7] (by decide) rfl).weaken (fun _ _ _ h => hLo _ h))) ⟨va_cnB 1 hts gX8_receivePicture_X4_copyFrom_n252 rfl rfl rfl (hC.nest 55 rfl) (hts (.initialized RX4) (by decide +kernel)) (by decide +kernel) ⟨Nat.le_of_ble_eq_true rfl, Nat.le_of_ble_eq_true rfl⟩, (hts (.instanceMethod yX4_copyFrom) (by decide +kernel)), (hts (.selects RX4 yX4_copyFrom yX4_copyFrom) (by decide +kernel))⟩ (preV hC hS hLo hP (ci := 3) (q0 := 18) rfl rfl) rfl rfl hl.1 rfl (lv_room (Nat.le_of_ble_eq_true rfl)) dX8_receivePicture_11 ⟨Nat.zero_le _, Nat.zero_le _⟩) hP hD hS hA [18, 19, 6, 7] (by decide) rfl (fun _ => rfl) (fun u_1 H locs q_2 hP hD hS => ?_)
  have hP : PP G (y3W G a v mo ki pr df (nI (co)) bi g9 lr v.2.2.1 tn ln) H := hP
  have hD : va_D A (y3W G a v mo ki pr df (nI (co)) bi g9 lr v.2.2.1 tn ln) := hD
  refine lv_iconst (v := nI (0)) hx hb dX8_receivePicture_14 (by decide) ?_
  refine lv_istore_n (lv' := [(1, .int (nI (0))), (0, .ref (a 0))]) hx hb dX8_receivePicture_15 rfl hl (by decide) rfl (fun ls hl => ?_)
  have L_16 : ∀ (n_16 : Nat) (i : Nat), 4 - i < n_16 → (i ≤ 4) → ∀ (H : Heap) (locs : List Loc) (ls : Array Slot), PP G (y3W G a (v.1, v.2.1, sdP (fun b => rvS v.1 v.2.2.1 df co (ki b) (mo b)) v.2.2.1 i, v.2.2.2.1, v.2.2.2.2.1, v.2.2.2.2.2.1, v.2.2.2.2.2.2.1, v.2.2.2.2.2.2.2.1, v.2.2.2.2.2.2.2.2.1, v.2.2.2.2.2.2.2.2.2) mo ki pr df (nI (co)) bi g9 lr v.2.2.1 tn ln) H → va_D A (y3W G a (v.1, v.2.1, sdP (fun b => rvS v.1 v.2.2.1 df co (ki b) (mo b)) v.2.2.1 i, v.2.2.2.1, v.2.2.2.2.1, v.2.2.2.2.2.1, v.2.2.2.2.2.2.1, v.2.2.2.2.2.2.2.1, v.2.2.2.2.2.2.2.2.1, v.2.2.2.2.2.2.2.2.2) mo ki pr df (nI (co)) bi g9 lr v.2.2.1 tn ln) → va_S A s.heap H locs → lv_has ls 2 [(0, .ref (a 0)), (1, .int (nI (i)))] → W pg l ev ({ frames := 3, cells := 0, slots := 0, locals := 69 } : Room) s m (([.ref (a 0)] : List Value).toArray) below meth c H locs 0 0 (MQ below (va_Qv (fun (u : Unit) => u = ()) (fun (u : Unit) t9 => PP G (y3W G a (v.1, v.2.1, sdP (fun b => rvS v.1 v.2.2.1 df co (ki b) (mo b)) v.2.2.1 4, v.2.2.2.1, v.2.2.2.2.1, v.2.2.2.2.2.1, v.2.2.2.2.2.2.1, v.2.2.2.2.2.2.2.1, v.2.2.2.2.2.2.2.2.1, v.2.2.2.2.2.2.2.2.2) mo ki pr df (nI (co)) bi g9 lr v.2.2.1 tn ln) t9.heap) A) (([.ref (a 0)] : List Value).toArray) s 0 0 A) (F0 m 16 ls []) := by
    intro n_16
    induction n_16 with
    | zero => intro i hn; exact absurd hn (Nat.not_lt_zero _)
    | succ n_16 ih_16 =>
      intro i hn_16 hi9 H locs ls hP hD hS hl
      refine lv_iload_n hx hb dX8_receivePicture_16 rfl (lv_at hl 1 rfl) ?_
      refine lv_iconst (v := nI (4)) hx hb dX8_receivePicture_17 (by decide) ?_
      refine lv_icmp_ge (tgt := 32) hx hb dX8_receivePicture_18 (by decide) (fun c_4 => ?_) (fun c_4 => ?_)
      · have f_5 : (4 : Int) ≤ ((i : Nat) : Int) := (c_le (nI_toInt (n := 4) (by omega)) (nI_toInt (n := i) (by omega))).mp c_4
        have e_i : i = 4 := by omega
        replace e_i := e_i.symm
        subst e_i
        exact xMv (G := G) (post := (fun (u : Unit) => u = ())) (w1 := (fun (u : Unit) => y3W G a (v.1, v.2.1, sdP (fun b => rvS v.1 v.2.2.1 df co (ki b) (mo b)) v.2.2.1 4, v.2.2.2.1, v.2.2.2.2.1, v.2.2.2.2.2.1, v.2.2.2.2.2.2.1, v.2.2.2.2.2.2.2.1, v.2.2.2.2.2.2.2.2.1, v.2.2.2.2.2.2.2.2.2) mo ki pr df (nI (co)) bi g9 lr v.2.2.1 tn ln)) (()) hx hb hr hlocks hP hS (by exact rfl) dX8_receivePicture_32
      · have f_6 : ¬ (4 : Int) ≤ ((i : Nat) : Int) := fun z => c_4 ((c_le (nI_toInt (n := 4) (by omega)) (nI_toInt (n := i) (by omega))).mpr z)
        refine lv_aload_n hx hb dX8_receivePicture_21 rfl (lv_at hl 0 rfl) ?_
        refine lv_iload_n hx hb dX8_receivePicture_22 rfl (lv_at hl 1 rfl) ?_
        refine kWv (va_runV (As := [.int (nI (i))]) (rest := []) ⟨hx, hb, hml, hown, hts⟩ (c_X8_receiveBlock a (v.1, v.2.1, sdP (fun b => rvS v.1 v.2.2.1 df co (ki b) (mo b)) v.2.2.1 i, v.2.2.2.1, v.2.2.2.2.1, v.2.2.2.2.2.1, v.2.2.2.2.2.2.1, v.2.2.2.2.2.2.2.1, v.2.2.2.2.2.2.2.2.1, v.2.2.2.2.2.2.2.2.2) mo ki pr df co bi g9 lr v.2.2.1 tn ln i (by first | assumption | omega) (by first | assumption | omega) (by first | assumption | omega) (by first | assumption | omega) (by first | assumption | omega) (hki _) hP (hD.weaken (fun _ _ _ h => hLo _ h))) (cwV 1 hts gX8_receivePicture_X8_receiveBlock rfl rfl rfl (by decide +kernel) ⟨Nat.le_of_ble_eq_true rfl, Nat.le_of_ble_eq_true rfl⟩) (preV hC hS hLo hP (ci := 7) (q0 := 0) rfl rfl) rfl rfl hl.1 rfl (lv_room (Nat.le_of_ble_eq_true rfl)) dX8_receivePicture_23 ⟨Nat.zero_le _, Nat.zero_le _⟩) hP hD hS hA (fun _ => rfl) (fun u_7 H locs q_8 hP hD hS => ?_)
        have hP : PP G (y3W G a (v.1, v.2.1, snS (rvS v.1 v.2.2.1 df co (ki i) (mo i)) (sdP (fun b => rvS v.1 v.2.2.1 df co (ki b) (mo b)) v.2.2.1 i) i 16, v.2.2.2.1, v.2.2.2.2.1, v.2.2.2.2.2.1, v.2.2.2.2.2.2.1, v.2.2.2.2.2.2.2.1, v.2.2.2.2.2.2.2.2.1, v.2.2.2.2.2.2.2.2.2) mo ki pr df (nI (co)) bi g9 lr v.2.2.1 tn ln) H := hP
        have hD : va_D A (y3W G a (v.1, v.2.1, snS (rvS v.1 v.2.2.1 df co (ki i) (mo i)) (sdP (fun b => rvS v.1 v.2.2.1 df co (ki b) (mo b)) v.2.2.1 i) i 16, v.2.2.2.1, v.2.2.2.2.1, v.2.2.2.2.2.1, v.2.2.2.2.2.2.1, v.2.2.2.2.2.2.2.1, v.2.2.2.2.2.2.2.2.1, v.2.2.2.2.2.2.2.2.2) mo ki pr df (nI (co)) bi g9 lr v.2.2.1 tn ln) := hD
        refine lv_iinc (v := nI (i + 1)) (lv' := [(1, .int (nI (i + 1))), (0, .ref (a 0))]) hx hb dX8_receivePicture_26 hl (k := 1) rfl (inc_p i 1) (by decide) rfl (fun ls hl => ?_)
        refine lv_goto (tgt := 16) hx hb dX8_receivePicture_29 (by decide) ?_
        exact ih_16 (i + 1) (by omega) (by omega) H locs ls hP hD hS (lv_sub hl [1, 0] ((lvc rfl (lvc rfl rfl))))
  exact L_16 (4 + 1) 0 (Nat.lt_succ_self _) (by omega) H locs ls hP hD hS (lv_sub hl [1, 0] (lvc rfl (lvc rfl rfl)))

set_option maxHeartbeats 4000000 in
set_option maxRecDepth 100000 in
theorem c_X8_receivePicture_k {l : Launch} {G : GT} {H0 : Heap} (a : Nat → Nat) (v : SVT) (mo ki : Nat → Nat) (pr df : Nat → Int) (co : Int32) (bi : Nat) (g9 : Nat → Int32) (lr : Nat) (bf : Nat → Int) (tn : Nat → Nat) (ln : Nat) (hraw : ∀ b, b < 4 → ki b = 0) (hP0 : PP G (y3W G a v mo ki pr df co bi g9 lr bf tn ln) H0) (hB0 : va_D (lo G) (y3W G a v mo ki pr df co bi g9 lr bf tn ln)) : Met l yX8_receivePicture wsX8_receivePicture ({ frames := 2, cells := 0, slots := 0, locals := 49 } : Room) (pcG G [.ref (a 0)] H0) (qMv G (fun (u : Unit) => u = ()) (fun (u : Unit) => y3W G a (v.1, v.2.1, sdP (fun _ => v.1) v.2.2.1 4, v.2.2.2.1, v.2.2.2.2.1, v.2.2.2.2.2.1, v.2.2.2.2.2.2.1, v.2.2.2.2.2.2.2.1, v.2.2.2.2.2.2.2.2.1, v.2.2.2.2.2.2.2.2.2) mo ki pr df co bi g9 lr v.2.2.1 tn ln) (y3W G a v mo ki pr df co bi g9 lr bf tn ln) H0) 0 0 (va_A (y3W G a v mo ki pr df co bi g9 lr bf tn ln) H0.size) := by
  refine enter (cc := cX8_receivePicture) (maxL := 2) (ret := none) (own := RX8) (lv := [(0, .ref (a 0))]) (by decide) rfl rfl rfl (Nat.le_of_ble_eq_true rfl) ?_
  intro pg ev s m below meth c hx hb hr hts hown hlocks hml hnm hH hC ls hl
  subst hH
  have hLo := va_freeB hB0 hC.2.2.2.1
  have hD := hB0.self (sz := s.heap.size)
  have hS : va_S (va_A (y3W G a v mo ki pr df co bi g9 lr bf tn ln) s.heap.size) s.heap s.heap [] := va_S.rf
  unfold qMv
  generalize hAe : va_A (y3W G a v mo ki pr df co bi g9 lr bf tn ln) s.heap.size = A at hD hLo hS ⊢
  have hA : ∀ q, s.heap.size ≤ q → A q := fun q h => by rw [← hAe]; exact Or.inr h
  generalize ([] : List Loc) = locs at hS ⊢
  have hP := hP0
  refine lv_aload_n hx hb dX8_receivePicture_0 rfl (lv_at hl 0 rfl) ?_
  refine va_get (D := gD G) (cl := vwCl) (tys := tyl G) (ci := 7) (v := .ref (a 18)) (C := RX8) (T := TX8) (N := 8) hx hb hts (by decide +kernel) hown hC.K hP 0 rfl rfl 3 (by decide) (hts (.fieldLink RX8 33 "MotionPost" "before" "LMotionPost$Picture;") (by decide +kernel)) (fun _ h9 => h9) rfl dX8_receivePicture_1 ?_
  refine lv_aload_n hx hb dX8_receivePicture_4 rfl (lv_at hl 0 rfl) ?_
  refine va_get (D := gD G) (cl := vwCl) (tys := tyl G) (ci := 7) (v := .ref (a 1)) (C := RX8) (T := TX8) (N := 8) hx hb hts (by decide +kernel) hown hC.K hP 0 rfl rfl 0 (by decide) (hts (.fieldLink RX8 12 "MotionPost" "now" "LMotionPost$State;") (by decide +kernel)) (fun _ h9 => h9) rfl dX8_receivePicture_5 ?_
  refine va_getN (D := gD G) (cl := vwCl) (tys := tyl G) (ci := 6) (v := .ref (a 6)) (C := RX7) (T := TX7) (N := 10) (host := "MotionPost") (ref := "MotionPost$State") hx hb hts (by decide +kernel) hown hC.K hP 1 rfl rfl 2 (by decide) (hC.nestW 8 rfl rfl) (fun _ h9 => h9) rfl dX8_receivePicture_8 ?_
  refine kMv (va_runVN (As := [.ref (a 6)]) (rest := []) ⟨hx, hb, hml, hown, hts⟩ (c_X4_copyFrom (a 18) (a 19) bf (a 6) (a 7) v.2.2.1 (hP.sub [18, 19, 6, 7] rfl) ((hD.sub [18, 19, 6, 7] (by decide) rfl).weaken (fun _ _ _ h => hLo _ h))) ⟨va_cnB 1 hts gX8_receivePicture_X4_copyFrom_n252 rfl rfl rfl (hC.nest 55 rfl) (hts (.initialized RX4) (by decide +kernel)) (by decide +kernel) ⟨Nat.le_of_ble_eq_true rfl, Nat.le_of_ble_eq_true rfl⟩, (hts (.instanceMethod yX4_copyFrom) (by decide +kernel)), (hts (.selects RX4 yX4_copyFrom yX4_copyFrom) (by decide +kernel))⟩ (preV hC hS hLo hP (ci := 3) (q0 := 18) rfl rfl) rfl rfl hl.1 rfl (lv_room (Nat.le_of_ble_eq_true rfl)) dX8_receivePicture_11 ⟨Nat.zero_le _, Nat.zero_le _⟩) hP hD hS hA [18, 19, 6, 7] (by decide) rfl (fun _ => rfl) (fun u_1 H locs q_2 hP hD hS => ?_)
  have hP : PP G (y3W G a v mo ki pr df co bi g9 lr v.2.2.1 tn ln) H := hP
  have hD : va_D A (y3W G a v mo ki pr df co bi g9 lr v.2.2.1 tn ln) := hD
  refine lv_iconst (v := nI (0)) hx hb dX8_receivePicture_14 (by decide) ?_
  refine lv_istore_n (lv' := [(1, .int (nI (0))), (0, .ref (a 0))]) hx hb dX8_receivePicture_15 rfl hl (by decide) rfl (fun ls hl => ?_)
  have L_16 : ∀ (n_16 : Nat) (i : Nat), 4 - i < n_16 → (i ≤ 4) → ∀ (H : Heap) (locs : List Loc) (ls : Array Slot), PP G (y3W G a (v.1, v.2.1, sdP (fun _ => v.1) v.2.2.1 i, v.2.2.2.1, v.2.2.2.2.1, v.2.2.2.2.2.1, v.2.2.2.2.2.2.1, v.2.2.2.2.2.2.2.1, v.2.2.2.2.2.2.2.2.1, v.2.2.2.2.2.2.2.2.2) mo ki pr df co bi g9 lr v.2.2.1 tn ln) H → va_D A (y3W G a (v.1, v.2.1, sdP (fun _ => v.1) v.2.2.1 i, v.2.2.2.1, v.2.2.2.2.1, v.2.2.2.2.2.1, v.2.2.2.2.2.2.1, v.2.2.2.2.2.2.2.1, v.2.2.2.2.2.2.2.2.1, v.2.2.2.2.2.2.2.2.2) mo ki pr df co bi g9 lr v.2.2.1 tn ln) → va_S A s.heap H locs → lv_has ls 2 [(0, .ref (a 0)), (1, .int (nI (i)))] → W pg l ev ({ frames := 2, cells := 0, slots := 0, locals := 49 } : Room) s m (([.ref (a 0)] : List Value).toArray) below meth c H locs 0 0 (MQ below (va_Qv (fun (u : Unit) => u = ()) (fun (u : Unit) t9 => PP G (y3W G a (v.1, v.2.1, sdP (fun _ => v.1) v.2.2.1 4, v.2.2.2.1, v.2.2.2.2.1, v.2.2.2.2.2.1, v.2.2.2.2.2.2.1, v.2.2.2.2.2.2.2.1, v.2.2.2.2.2.2.2.2.1, v.2.2.2.2.2.2.2.2.2) mo ki pr df co bi g9 lr v.2.2.1 tn ln) t9.heap) A) (([.ref (a 0)] : List Value).toArray) s 0 0 A) (F0 m 16 ls []) := by
    intro n_16
    induction n_16 with
    | zero => intro i hn; exact absurd hn (Nat.not_lt_zero _)
    | succ n_16 ih_16 =>
      intro i hn_16 hi9 H locs ls hP hD hS hl
      refine lv_iload_n hx hb dX8_receivePicture_16 rfl (lv_at hl 1 rfl) ?_
      refine lv_iconst (v := nI (4)) hx hb dX8_receivePicture_17 (by decide) ?_
      refine lv_icmp_ge (tgt := 32) hx hb dX8_receivePicture_18 (by decide) (fun c_4 => ?_) (fun c_4 => ?_)
      · have f_5 : (4 : Int) ≤ ((i : Nat) : Int) := (c_le (nI_toInt (n := 4) (by omega)) (nI_toInt (n := i) (by omega))).mp c_4
        have e_i : i = 4 := by omega
        replace e_i := e_i.symm
        subst e_i
        exact xMv (G := G) (post := (fun (u : Unit) => u = ())) (w1 := (fun (u : Unit) => y3W G a (v.1, v.2.1, sdP (fun _ => v.1) v.2.2.1 4, v.2.2.2.1, v.2.2.2.2.1, v.2.2.2.2.2.1, v.2.2.2.2.2.2.1, v.2.2.2.2.2.2.2.1, v.2.2.2.2.2.2.2.2.1, v.2.2.2.2.2.2.2.2.2) mo ki pr df co bi g9 lr v.2.2.1 tn ln)) (()) hx hb hr hlocks hP hS (by exact rfl) dX8_receivePicture_32
      · have f_6 : ¬ (4 : Int) ≤ ((i : Nat) : Int) := fun z => c_4 ((c_le (nI_toInt (n := 4) (by omega)) (nI_toInt (n := i) (by omega))).mpr z)
        refine lv_aload_n hx hb dX8_receivePicture_21 rfl (lv_at hl 0 rfl) ?_
        refine lv_iload_n hx hb dX8_receivePicture_22 rfl (lv_at hl 1 rfl) ?_
        refine kWv (va_runV (As := [.int (nI (i))]) (rest := []) ⟨hx, hb, hml, hown, hts⟩ (c_X8_receiveBlock_k a (v.1, v.2.1, sdP (fun _ => v.1) v.2.2.1 i, v.2.2.2.1, v.2.2.2.2.1, v.2.2.2.2.2.1, v.2.2.2.2.2.2.1, v.2.2.2.2.2.2.2.1, v.2.2.2.2.2.2.2.2.1, v.2.2.2.2.2.2.2.2.2) mo ki pr df co bi g9 lr v.2.2.1 tn ln i (by first | assumption | omega) (hraw _ (by omega)) hP (hD.weaken (fun _ _ _ h => hLo _ h))) (cwV 1 hts gX8_receivePicture_X8_receiveBlock rfl rfl rfl (by decide +kernel) ⟨Nat.le_of_ble_eq_true rfl, Nat.le_of_ble_eq_true rfl⟩) (preV hC hS hLo hP (ci := 7) (q0 := 0) rfl rfl) rfl rfl hl.1 rfl (lv_room (Nat.le_of_ble_eq_true rfl)) dX8_receivePicture_23 ⟨Nat.zero_le _, Nat.zero_le _⟩) hP hD hS hA (fun _ => rfl) (fun u_7 H locs q_8 hP hD hS => ?_)
        have hP : PP G (y3W G a (v.1, v.2.1, snS v.1 (sdP (fun _ => v.1) v.2.2.1 i) i 16, v.2.2.2.1, v.2.2.2.2.1, v.2.2.2.2.2.1, v.2.2.2.2.2.2.1, v.2.2.2.2.2.2.2.1, v.2.2.2.2.2.2.2.2.1, v.2.2.2.2.2.2.2.2.2) mo ki pr df co bi g9 lr v.2.2.1 tn ln) H := hP
        have hD : va_D A (y3W G a (v.1, v.2.1, snS v.1 (sdP (fun _ => v.1) v.2.2.1 i) i 16, v.2.2.2.1, v.2.2.2.2.1, v.2.2.2.2.2.1, v.2.2.2.2.2.2.1, v.2.2.2.2.2.2.2.1, v.2.2.2.2.2.2.2.2.1, v.2.2.2.2.2.2.2.2.2) mo ki pr df co bi g9 lr v.2.2.1 tn ln) := hD
        refine lv_iinc (v := nI (i + 1)) (lv' := [(1, .int (nI (i + 1))), (0, .ref (a 0))]) hx hb dX8_receivePicture_26 hl (k := 1) rfl (inc_p i 1) (by decide) rfl (fun ls hl => ?_)
        refine lv_goto (tgt := 16) hx hb dX8_receivePicture_29 (by decide) ?_
        exact ih_16 (i + 1) (by omega) (by omega) H locs ls hP hD hS (lv_sub hl [1, 0] ((lvc rfl (lvc rfl rfl))))
  exact L_16 (4 + 1) 0 (Nat.lt_succ_self _) (by omega) H locs ls hP hD hS (lv_sub hl [1, 0] (lvc rfl (lvc rfl rfl)))
