/-! ===== the law's own methods ===== -/
def lowI (x : Int32) (n : Nat) : Int32 := (x &&& 2147483647) - (x &&& 2147483647) / nI n * nI n
theorem mid_D {A : Nat → Prop} {P1 B P2 : va_W} (h : va_D A (P1 ++ (B ++ P2))) : va_D A B := by
  have h2 := bC_D (l := [(false, P1, []), (true, B, B), (false, P2, [])]) h
  simpa [bC] using h2
set_option maxHeartbeats 4000000 in
set_option maxRecDepth 100000 in
theorem c_L_low {l : Launch} {G : GT} {H0 : Heap} (x : Int32) (n : Nat) (hn : 1 ≤ n ∧ n < 2147483648) : Met l yL_low wsL_low ({ frames := 0, cells := 0, slots := 0, locals := 0 } : Room) (pcG G [.int (x), .int (nI (n))] H0) (qPi (lowI x n) H0) 0 0 noF := by
  refine enter (cc := cL_low) (maxL := 2) (ret := some .int) (own := RL) (lv := [(0, .int (x)), (1, .int (nI (n)))]) (by decide) rfl rfl rfl (Nat.le_of_ble_eq_true rfl) ?_
  intro pg ev s m below meth c hx hb hr hts hown hlocks hml hnm hH hC ls hl
  subst hH
  have hLo : ∀ q, noF q → lo G q := fun _ h => h.elim
  have hS : va_S noF s.heap s.heap [] := va_S.rf
  generalize ([] : List Loc) = locs at hS ⊢
  refine lv_iload_n hx hb dL_low_0 rfl (lv_at hl 0 rfl) ?_
  refine lv_ldc (v := 2147483647) hx hb hown (hts (.constant RL 7 2147483647) (by decide +kernel)) dL_low_1 ?_
  refine g_iand (z := x &&& 2147483647) hx hb dL_low_3 (rfl) ?_
  refine lv_iload_n hx hb dL_low_4 rfl (lv_at hl 1 rfl) ?_
  refine gRem (z := (x &&& 2147483647) - (x &&& 2147483647) / (nI (n)) * (nI (n))) hx hb dL_low_5 (nI_ne0 (by omega) (by omega)) (rfl) ?_
  exact xPi hx hb hr hlocks hS (by exact rfl) (by exact rfl) dL_low_6

set_option maxHeartbeats 4000000 in
set_option maxRecDepth 100000 in
theorem c_L_steps {l : Launch} {G : GT} {H0 : Heap} (m0 : Nat) (hm : m0 < 25) : Met l yL_steps wsL_steps ({ frames := 0, cells := 0, slots := 0, locals := 0 } : Room) (pcG G [.int (nI (m0))] H0) (qPi (nI (lenM m0)) H0) 0 0 noF := by
  refine enter (cc := cL_steps) (maxL := 3) (ret := some .int) (own := RL) (lv := [(0, .int (nI (m0)))]) (by decide) rfl rfl rfl (Nat.le_of_ble_eq_true rfl) ?_
  intro pg ev s m below meth c hx hb hr hts hown hlocks hml hnm hH hC ls hl
  subst hH
  have hLo : ∀ q, noF q → lo G q := fun _ h => h.elim
  have hS : va_S noF s.heap s.heap [] := va_S.rf
  generalize ([] : List Loc) = locs at hS ⊢
  refine lv_iload_n hx hb dL_steps_0 rfl (lv_at hl 0 rfl) ?_
  refine lv_iconst (v := nI (5)) hx hb dL_steps_1 (by decide) ?_
  refine gDiv (z := nI (m0 / 5)) hx hb dL_steps_2 (nI_ne0 (by omega) (by omega)) (pk_div (by omega) (by omega) (by omega)) ?_
  refine lv_iconst (v := nI (2)) hx hb dL_steps_3 (by decide) ?_
  refine gSub (z := iI (((m0 / 5 : Nat) : Int) - (2 : Int))) hx hb dL_steps_4 (z_sub (nI_i (m0 / 5)) (nI_i (2))) ?_
  refine lv_istore_n (lv' := [(1, .int (iI (((m0 / 5 : Nat) : Int) - (2 : Int)))), (0, .int (nI (m0)))]) hx hb dL_steps_5 rfl hl (by decide) rfl (fun ls hl => ?_)
  refine lv_iload_n hx hb dL_steps_6 rfl (lv_at hl 1 rfl) ?_
  refine lv_iconst (v := nI (5)) hx hb dL_steps_7 (by decide) ?_
  refine gRem (z := nI (m0 % 5)) hx hb dL_steps_8 (nI_ne0 (by omega) (by omega)) (pk_rem (by omega) (by omega) (by omega)) ?_
  refine lv_iconst (v := nI (2)) hx hb dL_steps_9 (by decide) ?_
  refine gSub (z := iI (((m0 % 5 : Nat) : Int) - (2 : Int))) hx hb dL_steps_10 (z_sub (nI_i (m0 % 5)) (nI_i (2))) ?_
  refine lv_istore_n (lv' := [(2, .int (iI (((m0 % 5 : Nat) : Int) - (2 : Int)))), (1, .int (iI (((m0 / 5 : Nat) : Int) - (2 : Int)))), (0, .int (nI (m0)))]) hx hb dL_steps_11 rfl hl (by decide) rfl (fun ls hl => ?_)
  refine lv_iload_n hx hb dL_steps_12 rfl (lv_at hl 1 rfl) ?_
  refine lv_if_ge (tgt := 21) hx hb dL_steps_13 (by decide) (fun c_1 => ?_) (fun c_1 => ?_)
  · have f_2 : (0 : Int) ≤ (((m0 / 5 : Nat) : Int) - (2 : Int)) := (c_le rfl (iI_toInt (by omega) (by omega))).mp c_1
    refine lv_iload_n hx hb dL_steps_21 rfl (lv_at hl 1 rfl) ?_
    refine lv_iload_n hx hb dL_steps_22 rfl (lv_at hl 0 rfl) ?_
    refine lv_if_ge (tgt := 31) hx hb dL_steps_23 (by decide) (fun c_3 => ?_) (fun c_3 => ?_)
    · have f_4 : (0 : Int) ≤ (((m0 % 5 : Nat) : Int) - (2 : Int)) := (c_le rfl (iI_toInt (by omega) (by omega))).mp c_3
      refine lv_iload_n hx hb dL_steps_31 rfl (lv_at hl 0 rfl) ?_
      refine gAdd (z := iI ((((m0 / 5 : Nat) : Int) - (2 : Int)) + (((m0 % 5 : Nat) : Int) - (2 : Int)))) hx hb dL_steps_32 (z_add rfl rfl) ?_
      exact xPi hx hb hr hlocks hS (by exact by rw [nI_i]; exact congrArg iI (by unfold lenM mdn mrt; omega)) (by exact rfl) dL_steps_33
    · have f_5 : ¬ (0 : Int) ≤ (((m0 % 5 : Nat) : Int) - (2 : Int)) := fun z => c_3 ((c_le rfl (iI_toInt (by omega) (by omega))).mpr z)
      refine lv_iload_n hx hb dL_steps_26 rfl (lv_at hl 0 rfl) ?_
      refine gNeg (z := iI (-(((m0 % 5 : Nat) : Int) - (2 : Int)))) hx hb dL_steps_27 (iI_ng _) ?_
      refine lv_goto (tgt := 32) hx hb dL_steps_28 (by decide) ?_
      refine gAdd (z := iI ((((m0 / 5 : Nat) : Int) - (2 : Int)) + (-(((m0 % 5 : Nat) : Int) - (2 : Int))))) hx hb dL_steps_32 (z_add rfl rfl) ?_
      exact xPi hx hb hr hlocks hS (by exact by rw [nI_i]; exact congrArg iI (by unfold lenM mdn mrt; omega)) (by exact rfl) dL_steps_33
  · have f_6 : ¬ (0 : Int) ≤ (((m0 / 5 : Nat) : Int) - (2 : Int)) := fun z => c_1 ((c_le rfl (iI_toInt (by omega) (by omega))).mpr z)
    refine lv_iload_n hx hb dL_steps_16 rfl (lv_at hl 1 rfl) ?_
    refine gNeg (z := iI (-(((m0 / 5 : Nat) : Int) - (2 : Int)))) hx hb dL_steps_17 (iI_ng _) ?_
    refine lv_goto (tgt := 22) hx hb dL_steps_18 (by decide) ?_
    refine lv_iload_n hx hb dL_steps_22 rfl (lv_at hl 0 rfl) ?_
    refine lv_if_ge (tgt := 31) hx hb dL_steps_23 (by decide) (fun c_7 => ?_) (fun c_7 => ?_)
    · have f_8 : (0 : Int) ≤ (((m0 % 5 : Nat) : Int) - (2 : Int)) := (c_le rfl (iI_toInt (by omega) (by omega))).mp c_7
      refine lv_iload_n hx hb dL_steps_31 rfl (lv_at hl 0 rfl) ?_
      refine gAdd (z := iI ((-(((m0 / 5 : Nat) : Int) - (2 : Int))) + (((m0 % 5 : Nat) : Int) - (2 : Int)))) hx hb dL_steps_32 (z_add rfl rfl) ?_
      exact xPi hx hb hr hlocks hS (by exact by rw [nI_i]; exact congrArg iI (by unfold lenM mdn mrt; omega)) (by exact rfl) dL_steps_33
    · have f_9 : ¬ (0 : Int) ≤ (((m0 % 5 : Nat) : Int) - (2 : Int)) := fun z => c_7 ((c_le rfl (iI_toInt (by omega) (by omega))).mpr z)
      refine lv_iload_n hx hb dL_steps_26 rfl (lv_at hl 0 rfl) ?_
      refine gNeg (z := iI (-(((m0 % 5 : Nat) : Int) - (2 : Int)))) hx hb dL_steps_27 (iI_ng _) ?_
      refine lv_goto (tgt := 32) hx hb dL_steps_28 (by decide) ?_
      refine gAdd (z := iI ((-(((m0 / 5 : Nat) : Int) - (2 : Int))) + (-(((m0 % 5 : Nat) : Int) - (2 : Int))))) hx hb dL_steps_32 (z_add rfl rfl) ?_
      exact xPi hx hb hr hlocks hS (by exact by rw [nI_i]; exact congrArg iI (by unfold lenM mdn mrt; omega)) (by exact rfl) dL_steps_33
