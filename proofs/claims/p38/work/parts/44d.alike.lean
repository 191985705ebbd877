theorem SIM_mv {v w : SVT} (h : SIM v w) (i : Nat) : iI (if sPi v = 0 ∨ sK v i = 0 then -1 else (sM w i : Int)) = iI (if sPi v = 0 ∨ sK v i = 0 then -1 else (sM v i : Int)) := by
  by_cases c : sPi v = 0 ∨ sK v i = 0
  · rw [if_pos c, if_pos c]
  · rw [if_neg c, if_neg c, h.2.2.2.2.1 i (fun z => c (Or.inr z))]
set_option maxHeartbeats 4000000 in
set_option maxRecDepth 100000 in
theorem c_L_areAlike {l : Launch} {G : GT} {H0 : Heap} (a b : Nat → Nat) (v w : SVT) (j k : JT) (R9 : va_W) (hv : OKS v) (hw : OKS w) (hs : SIM v w) (hpi : sPi v ≤ 999) (hj : OKJ j) (hk9 : OKJ k) (hP0 : PP G (oW G a v j ++ (oW G b w k ++ R9)) H0) (hB0 : va_D (lo G) (oW G a v j ++ (oW G b w k ++ R9))) : Met l yL_areAlike wsL_areAlike ({ frames := 5, cells := 0, slots := 0, locals := 119 } : Room) (pcG G [.ref (a 0), .ref (b 0)] H0) (qMi G (fun (r : Int32) (u : JT × JT) => r = nI 1 ∧ OKJ u.1 ∧ jH u.1 = jH j ∧ OKJ u.2 ∧ jH u.2 = jH k) (fun (u : JT × JT) => oW G a v u.1 ++ (oW G b w u.2 ++ R9)) (oW G a v j ++ (oW G b w k ++ R9)) H0) 0 0 (va_A (oW G a v j ++ (oW G b w k ++ R9)) H0.size) := by
  refine enter (cc := cL_areAlike) (maxL := 4) (ret := some .boolean) (own := RL) (lv := [(0, .ref (a 0)), (1, .ref (b 0))]) (by decide) rfl rfl rfl (Nat.le_of_ble_eq_true rfl) ?_
  intro pg ev s m below meth c hx hb hr hts hown hlocks hml hnm hH hC ls hl
  subst hH
  have hLo := va_freeB hB0 hC.2.2.2.1
  have hD := hB0.self (sz := s.heap.size)
  have hS : va_S (va_A (oW G a v j ++ (oW G b w k ++ R9)) s.heap.size) s.heap s.heap [] := va_S.rf
  unfold qMi
  generalize hAe : va_A (oW G a v j ++ (oW G b w k ++ R9)) s.heap.size = A at hD hLo hS ⊢
  have hA : ∀ q, s.heap.size ≤ q → A q := fun q h => by rw [← hAe]; exact Or.inr h
  generalize ([] : List Loc) = locs at hS ⊢
  have hP := hP0
  have hv0 := hv
  obtain ⟨hd, ht, hg, hk, hbu, hkd⟩ := hv
  have e_d : sD w = sD v := hs.1.symm
  have e_t : sT w = sT v := hs.2.1.symm
  have e_g : sG w = sG v := hs.2.2.1.symm
  have e_k : sK w = sK v := hs.2.2.2.1.symm
  have e_b : BITS w = BITS v := (SIM_b hs).1.symm
  have e_pi : sPi w = sPi v := (SIM_b hs).2.1.symm
  have e_lo : sLo w = sLo v := (SIM_b hs).2.2.1.symm
  have e_bi : sBi w = sBi v := (SIM_b hs).2.2.2.symm
  have hpw : sPi w ≤ 999 := by rw [e_pi]; exact hpi
  refine lv_aload_n hx hb dL_areAlike_0 rfl (lv_at hl 0 rfl) ?_
  refine kPi (va_runV (As := []) (rest := []) ⟨hx, hb, hml, hown, hts⟩ (c_X8_pictureCount a v (oW_now (PP_l hP))) (cwV 0 hts gL_areAlike_X8_pictureCount rfl rfl rfl (by decide +kernel) ⟨(Nat.le_of_ble_eq_true rfl), (Nat.le_of_ble_eq_true rfl)⟩) (preV hC hS hLo (oW_obj (PP_l hP)) (ci := 7) (q0 := 0) rfl rfl) rfl rfl hl.1 rfl (lv_room (Nat.le_of_ble_eq_true rfl)) dL_areAlike_1 ⟨(Nat.le_of_ble_eq_true rfl), (Nat.le_of_ble_eq_true rfl)⟩) hS (fun locs hS => ?_)
  refine topE (v' := nI (sPi v)) (rfl) ?_
  refine lv_aload_n hx hb dL_areAlike_4 rfl (lv_at hl 1 rfl) ?_
  refine kPi (va_runV (As := []) (rest := [.int (nI (sPi v))]) ⟨hx, hb, hml, hown, hts⟩ (c_X8_pictureCount b w (oW_now (PP_l (PP_r hP)))) (cwV 0 hts gL_areAlike_X8_pictureCount rfl rfl rfl (by decide +kernel) ⟨(Nat.le_of_ble_eq_true rfl), (Nat.le_of_ble_eq_true rfl)⟩) (preV hC hS hLo (oW_obj (PP_l (PP_r hP))) (ci := 7) (q0 := 0) rfl rfl) rfl rfl hl.1 rfl (lv_room (Nat.le_of_ble_eq_true rfl)) dL_areAlike_5 ⟨(Nat.le_of_ble_eq_true rfl), (Nat.le_of_ble_eq_true rfl)⟩) hS (fun locs hS => ?_)
  refine topE (v' := nI (sPi v)) (congrArg nI e_pi) ?_
  refine lv_icmp_ne (tgt := 48) hx hb dL_areAlike_8 (by decide) (fun c_1 => ?_) (fun c_1 => ?_)
  · have f_2 := c_1
    exact absurd rfl f_2
  · have f_3 := c_1
    refine lv_aload_n hx hb dL_areAlike_11 rfl (lv_at hl 0 rfl) ?_
    refine kPi (va_runV (As := []) (rest := []) ⟨hx, hb, hml, hown, hts⟩ (c_X8_lostCount a v (oW_now (PP_l hP))) (cwV 0 hts gL_areAlike_X8_lostCount rfl rfl rfl (by decide +kernel) ⟨(Nat.le_of_ble_eq_true rfl), (Nat.le_of_ble_eq_true rfl)⟩) (preV hC hS hLo (oW_obj (PP_l hP)) (ci := 7) (q0 := 0) rfl rfl) rfl rfl hl.1 rfl (lv_room (Nat.le_of_ble_eq_true rfl)) dL_areAlike_12 ⟨(Nat.le_of_ble_eq_true rfl), (Nat.le_of_ble_eq_true rfl)⟩) hS (fun locs hS => ?_)
    refine topE (v' := nI (sLo v)) (rfl) ?_
    refine lv_aload_n hx hb dL_areAlike_15 rfl (lv_at hl 1 rfl) ?_
    refine kPi (va_runV (As := []) (rest := [.int (nI (sLo v))]) ⟨hx, hb, hml, hown, hts⟩ (c_X8_lostCount b w (oW_now (PP_l (PP_r hP)))) (cwV 0 hts gL_areAlike_X8_lostCount rfl rfl rfl (by decide +kernel) ⟨(Nat.le_of_ble_eq_true rfl), (Nat.le_of_ble_eq_true rfl)⟩) (preV hC hS hLo (oW_obj (PP_l (PP_r hP))) (ci := 7) (q0 := 0) rfl rfl) rfl rfl hl.1 rfl (lv_room (Nat.le_of_ble_eq_true rfl)) dL_areAlike_16 ⟨(Nat.le_of_ble_eq_true rfl), (Nat.le_of_ble_eq_true rfl)⟩) hS (fun locs hS => ?_)
    refine topE (v' := nI (sLo v)) (congrArg nI e_lo) ?_
    refine lv_icmp_ne (tgt := 48) hx hb dL_areAlike_19 (by decide) (fun c_4 => ?_) (fun c_4 => ?_)
    · have f_5 := c_4
      exact absurd rfl f_5
    · have f_6 := c_4
      refine lv_aload_n hx hb dL_areAlike_22 rfl (lv_at hl 0 rfl) ?_
      refine kPi (va_runV (As := []) (rest := []) ⟨hx, hb, hml, hown, hts⟩ (c_X8_bitCount a v (oW_now (PP_l hP))) (cwV 0 hts gL_areAlike_X8_bitCount rfl rfl rfl (by decide +kernel) ⟨(Nat.le_of_ble_eq_true rfl), (Nat.le_of_ble_eq_true rfl)⟩) (preV hC hS hLo (oW_obj (PP_l hP)) (ci := 7) (q0 := 0) rfl rfl) rfl rfl hl.1 rfl (lv_room (Nat.le_of_ble_eq_true rfl)) dL_areAlike_23 ⟨(Nat.le_of_ble_eq_true rfl), (Nat.le_of_ble_eq_true rfl)⟩) hS (fun locs hS => ?_)
      refine topE (v' := nI (sBi v)) (rfl) ?_
      refine lv_aload_n hx hb dL_areAlike_26 rfl (lv_at hl 1 rfl) ?_
      refine kPi (va_runV (As := []) (rest := [.int (nI (sBi v))]) ⟨hx, hb, hml, hown, hts⟩ (c_X8_bitCount b w (oW_now (PP_l (PP_r hP)))) (cwV 0 hts gL_areAlike_X8_bitCount rfl rfl rfl (by decide +kernel) ⟨(Nat.le_of_ble_eq_true rfl), (Nat.le_of_ble_eq_true rfl)⟩) (preV hC hS hLo (oW_obj (PP_l (PP_r hP))) (ci := 7) (q0 := 0) rfl rfl) rfl rfl hl.1 rfl (lv_room (Nat.le_of_ble_eq_true rfl)) dL_areAlike_27 ⟨(Nat.le_of_ble_eq_true rfl), (Nat.le_of_ble_eq_true rfl)⟩) hS (fun locs hS => ?_)
      refine topE (v' := nI (sBi v)) (congrArg nI e_bi) ?_
      refine lv_icmp_ne (tgt := 48) hx hb dL_areAlike_30 (by decide) (fun c_7 => ?_) (fun c_7 => ?_)
      · have f_8 := c_7
        exact absurd rfl f_8
      · have f_9 := c_7
        refine lv_aload_n hx hb dL_areAlike_33 rfl (lv_at hl 0 rfl) ?_
        refine kPreI (va_runV (As := []) (rest := []) ⟨hx, hb, hml, hown, hts⟩ (o_bitsNext a v j hv0 (by omega) hj (PP_l hP) ((pre_D hD).weaken (fun _ _ _ h => hLo _ h))) (cwV 0 hts gL_areAlike_X8_bitsNext rfl rfl rfl (by decide +kernel) ⟨(Nat.le_of_ble_eq_true rfl), (Nat.le_of_ble_eq_true rfl)⟩) (preV hC hS hLo (oW_obj (PP_l hP)) (ci := 7) (q0 := 0) rfl rfl) rfl rfl hl.1 rfl (lv_room (Nat.le_of_ble_eq_true rfl)) dL_areAlike_34 ⟨(Nat.le_of_ble_eq_true rfl), (Nat.le_of_ble_eq_true rfl)⟩) hP hD hS hA (fun _ => oW_fst) (fun r_12 u_10 H locs q_11 hP hD hS => ?_)
        have hP : PP G (oW G a v u_10 ++ (oW G b w k ++ R9)) H := hP
        have hD : va_D A (oW G a v u_10 ++ (oW G b w k ++ R9)) := hD
        have hq0 := q_11.2
        refine topE (v' := nI (BITS v)) (q_11.1) ?_
        refine lv_aload_n hx hb dL_areAlike_37 rfl (lv_at hl 1 rfl) ?_
        refine kMidI (va_runV (As := []) (rest := [.int (nI (BITS v))]) ⟨hx, hb, hml, hown, hts⟩ (o_bitsNext b w k hw (by omega) hk9 (PP_l (PP_r hP)) ((mid_D hD).weaken (fun _ _ _ h => hLo _ h))) (cwV 0 hts gL_areAlike_X8_bitsNext rfl rfl rfl (by decide +kernel) ⟨(Nat.le_of_ble_eq_true rfl), (Nat.le_of_ble_eq_true rfl)⟩) (preV hC hS hLo (oW_obj (PP_l (PP_r hP))) (ci := 7) (q0 := 0) rfl rfl) rfl rfl hl.1 rfl (lv_room (Nat.le_of_ble_eq_true rfl)) dL_areAlike_38 ⟨(Nat.le_of_ble_eq_true rfl), (Nat.le_of_ble_eq_true rfl)⟩) hP hD hS hA (fun _ => oW_fst) (fun r_15 u_13 H locs q_14 hP hD hS => ?_)
        have hP : PP G (oW G a v u_10 ++ (oW G b w u_13 ++ R9)) H := hP
        have hD : va_D A (oW G a v u_10 ++ (oW G b w u_13 ++ R9)) := hD
        have hq1 := q_14.2
        refine topE (v' := nI (BITS v)) (q_14.1.trans (congrArg nI e_b)) ?_
        refine lv_icmp_ne (tgt := 48) hx hb dL_areAlike_41 (by decide) (fun c_16 => ?_) (fun c_16 => ?_)
        · have f_17 := c_16
          exact absurd rfl f_17
        · have f_18 := c_16
          refine lv_iconst (v := nI (1)) hx hb dL_areAlike_44 (by decide) ?_
          refine lv_goto (tgt := 49) hx hb dL_areAlike_45 (by decide) ?_
          refine lv_istore_n (lv' := [(2, .int (nI (1))), (0, .ref (a 0)), (1, .ref (b 0))]) hx hb dL_areAlike_49 rfl hl (by decide) rfl (fun ls hl => ?_)
          refine lv_iconst (v := nI (0)) hx hb dL_areAlike_50 (by decide) ?_
          refine lv_istore_n (lv' := [(3, .int (nI (0))), (2, .int (nI (1))), (0, .ref (a 0)), (1, .ref (b 0))]) hx hb dL_areAlike_51 rfl hl (by decide) rfl (fun ls hl => ?_)
          have L_52 : ∀ (n_52 : Nat) (i : Nat), 64 - i < n_52 → (i ≤ 64) → ∀ (locs : List Loc) (ls : Array Slot), va_S A s.heap H locs → lv_has ls 4 [(0, .ref (a 0)), (1, .ref (b 0)), (2, .int (nI (1))), (3, .int (nI (i)))] → W pg l ev ({ frames := 5, cells := 0, slots := 0, locals := 119 } : Room) s m (([.ref (a 0), .ref (b 0)] : List Value).toArray) below meth c H locs 0 0 (MQ below (va_Qi (fun (r : Int32) (u : JT × JT) => r = nI 1 ∧ OKJ u.1 ∧ jH u.1 = jH j ∧ OKJ u.2 ∧ jH u.2 = jH k) (fun (u : JT × JT) t9 => PP G (oW G a v u.1 ++ (oW G b w u.2 ++ R9)) t9.heap) A) (([.ref (a 0), .ref (b 0)] : List Value).toArray) s 0 0 A) (F0 m 52 ls []) := by
            intro n_52
            induction n_52 with
            | zero => intro i hn; exact absurd hn (Nat.not_lt_zero _)
            | succ n_52 ih_52 =>
              intro i hn_52 hi9 locs ls hS hl
              refine lv_iload_n hx hb dL_areAlike_52 rfl (lv_at hl 3 rfl) ?_
              refine lv_bipush (v := nI (64)) hx hb dL_areAlike_53 (by decide) ?_
              refine lv_icmp_ge (tgt := 113) hx hb dL_areAlike_55 (by decide) (fun c_19 => ?_) (fun c_19 => ?_)
              · have f_20 : (64 : Int) ≤ ((i : Nat) : Int) := (c_le (nI_toInt (n := 64) (by omega)) (nI_toInt (n := i) (by omega))).mp c_19
                refine lv_iconst (v := nI (0)) hx hb dL_areAlike_113 (by decide) ?_
                refine lv_istore_n (lv' := [(3, .int (nI (0))), (0, .ref (a 0)), (1, .ref (b 0)), (2, .int (nI (1)))]) hx hb dL_areAlike_114 rfl hl (by decide) rfl (fun ls hl => ?_)
                have L_115 : ∀ (n_115 : Nat) (i : Nat), 4 - i < n_115 → (i ≤ 4) → ∀ (locs : List Loc) (ls : Array Slot), va_S A s.heap H locs → lv_has ls 4 [(0, .ref (a 0)), (1, .ref (b 0)), (2, .int (nI (1))), (3, .int (nI (i)))] → W pg l ev ({ frames := 5, cells := 0, slots := 0, locals := 119 } : Room) s m (([.ref (a 0), .ref (b 0)] : List Value).toArray) below meth c H locs 0 0 (MQ below (va_Qi (fun (r : Int32) (u : JT × JT) => r = nI 1 ∧ OKJ u.1 ∧ jH u.1 = jH j ∧ OKJ u.2 ∧ jH u.2 = jH k) (fun (u : JT × JT) t9 => PP G (oW G a v u.1 ++ (oW G b w u.2 ++ R9)) t9.heap) A) (([.ref (a 0), .ref (b 0)] : List Value).toArray) s 0 0 A) (F0 m 115 ls []) := by
                  intro n_115
                  induction n_115 with
                  | zero => intro i hn; exact absurd hn (Nat.not_lt_zero _)
                  | succ n_115 ih_115 =>
                    intro i hn_115 hi9 locs ls hS hl
                    refine lv_iload_n hx hb dL_areAlike_115 rfl (lv_at hl 3 rfl) ?_
                    refine lv_iconst (v := nI (4)) hx hb dL_areAlike_116 (by decide) ?_
                    refine lv_icmp_ge (tgt := 162) hx hb dL_areAlike_117 (by decide) (fun c_21 => ?_) (fun c_21 => ?_)
                    · have f_22 : (4 : Int) ≤ ((i : Nat) : Int) := (c_le (nI_toInt (n := 4) (by omega)) (nI_toInt (n := i) (by omega))).mp c_21
                      refine lv_iload_n hx hb dL_areAlike_162 rfl (lv_at hl 2 rfl) ?_
                      exact xMi (G := G) (post := (fun (r : Int32) (u : JT × JT) => r = nI 1 ∧ OKJ u.1 ∧ jH u.1 = jH j ∧ OKJ u.2 ∧ jH u.2 = jH k)) (w1 := (fun (u : JT × JT) => oW G a v u.1 ++ (oW G b w u.2 ++ R9))) ((u_10, u_13)) hx hb hr hlocks hP hS (by exact ⟨rfl, hq0.1, hq0.2, hq1.1, hq1.2⟩) (by exact rfl) dL_areAlike_163
                    · have f_23 : ¬ (4 : Int) ≤ ((i : Nat) : Int) := fun z => c_21 ((c_le (nI_toInt (n := 4) (by omega)) (nI_toInt (n := i) (by omega))).mpr z)
                      refine lv_iload_n hx hb dL_areAlike_120 rfl (lv_at hl 2 rfl) ?_
                      refine lv_if_eq (tgt := 162) hx hb dL_areAlike_121 (by decide) (fun c_24 => ?_) (fun c_24 => ?_)
                      · have f_25 : (1 : Int) = (0 : Int) := (c_eq (nI_toInt (n := 1) (by omega)) rfl).mp c_24
                        exfalso; omega
                      · have f_26 : ¬ (1 : Int) = (0 : Int) := fun z => c_24 ((c_eq (nI_toInt (n := 1) (by omega)) rfl).mpr z)
                        refine lv_aload_n hx hb dL_areAlike_124 rfl (lv_at hl 0 rfl) ?_
                        refine lv_iload_n hx hb dL_areAlike_125 rfl (lv_at hl 3 rfl) ?_
                        refine kPi (va_runV (As := [.int (nI (i))]) (rest := []) ⟨hx, hb, hml, hown, hts⟩ (c_X8_lastKind a v i (by omega) hkd hpi (oW_now (PP_l hP))) (cwV 1 hts gL_areAlike_X8_lastKind rfl rfl rfl (by decide +kernel) ⟨(Nat.le_of_ble_eq_true rfl), (Nat.le_of_ble_eq_true rfl)⟩) (preV hC hS hLo (oW_obj (PP_l hP)) (ci := 7) (q0 := 0) rfl rfl) rfl rfl hl.1 rfl (lv_room (Nat.le_of_ble_eq_true rfl)) dL_areAlike_126 ⟨(Nat.le_of_ble_eq_true rfl), (Nat.le_of_ble_eq_true rfl)⟩) hS (fun locs hS => ?_)
                        refine topE (v' := iI (if sPi v = 0 then -1 else (sK v i : Int))) (rfl) ?_
                        refine lv_aload_n hx hb dL_areAlike_129 rfl (lv_at hl 1 rfl) ?_
                        refine lv_iload_n hx hb dL_areAlike_130 rfl (lv_at hl 3 rfl) ?_
                        refine kPi (va_runV (As := [.int (nI (i))]) (rest := [.int (iI (if sPi v = 0 then -1 else (sK v i : Int)))]) ⟨hx, hb, hml, hown, hts⟩ (c_X8_lastKind b w i (by omega) hw.2.2.2.2.2 hpw (oW_now (PP_l (PP_r hP)))) (cwV 1 hts gL_areAlike_X8_lastKind rfl rfl rfl (by decide +kernel) ⟨(Nat.le_of_ble_eq_true rfl), (Nat.le_of_ble_eq_true rfl)⟩) (preV hC hS hLo (oW_obj (PP_l (PP_r hP))) (ci := 7) (q0 := 0) rfl rfl) rfl rfl hl.1 rfl (lv_room (Nat.le_of_ble_eq_true rfl)) dL_areAlike_131 ⟨(Nat.le_of_ble_eq_true rfl), (Nat.le_of_ble_eq_true rfl)⟩) hS (fun locs hS => ?_)
                        refine topE (v' := iI (if sPi v = 0 then -1 else (sK v i : Int))) (by show iI (if sPi w = 0 then -1 else (sK w i : Int)) = _; rw [e_pi, e_k]) ?_
                        refine lv_icmp_ne (tgt := 154) hx hb dL_areAlike_134 (by decide) (fun c_27 => ?_) (fun c_27 => ?_)
                        · have f_28 := c_27
                          exact absurd rfl f_28
                        · have f_29 := c_27
                          refine lv_aload_n hx hb dL_areAlike_137 rfl (lv_at hl 0 rfl) ?_
                          refine lv_iload_n hx hb dL_areAlike_138 rfl (lv_at hl 3 rfl) ?_
                          refine kPi (va_runV (As := [.int (nI (i))]) (rest := []) ⟨hx, hb, hml, hown, hts⟩ (c_X8_lastMove a v i (by omega) hkd hpi (hk i) (oW_now (PP_l hP))) (cwV 1 hts gL_areAlike_X8_lastMove rfl rfl rfl (by decide +kernel) ⟨(Nat.le_of_ble_eq_true rfl), (Nat.le_of_ble_eq_true rfl)⟩) (preV hC hS hLo (oW_obj (PP_l hP)) (ci := 7) (q0 := 0) rfl rfl) rfl rfl hl.1 rfl (lv_room (Nat.le_of_ble_eq_true rfl)) dL_areAlike_139 ⟨(Nat.le_of_ble_eq_true rfl), (Nat.le_of_ble_eq_true rfl)⟩) hS (fun locs hS => ?_)
                          refine topE (v' := iI (if sPi v = 0 ∨ sK v i = 0 then -1 else (sM v i : Int))) (rfl) ?_
                          refine lv_aload_n hx hb dL_areAlike_142 rfl (lv_at hl 1 rfl) ?_
                          refine lv_iload_n hx hb dL_areAlike_143 rfl (lv_at hl 3 rfl) ?_
                          refine kPi (va_runV (As := [.int (nI (i))]) (rest := [.int (iI (if sPi v = 0 ∨ sK v i = 0 then -1 else (sM v i : Int)))]) ⟨hx, hb, hml, hown, hts⟩ (c_X8_lastMove b w i (by omega) hw.2.2.2.2.2 hpw (hw.2.2.2.1 i) (oW_now (PP_l (PP_r hP)))) (cwV 1 hts gL_areAlike_X8_lastMove rfl rfl rfl (by decide +kernel) ⟨(Nat.le_of_ble_eq_true rfl), (Nat.le_of_ble_eq_true rfl)⟩) (preV hC hS hLo (oW_obj (PP_l (PP_r hP))) (ci := 7) (q0 := 0) rfl rfl) rfl rfl hl.1 rfl (lv_room (Nat.le_of_ble_eq_true rfl)) dL_areAlike_144 ⟨(Nat.le_of_ble_eq_true rfl), (Nat.le_of_ble_eq_true rfl)⟩) hS (fun locs hS => ?_)
                          refine topE (v' := iI (if sPi v = 0 ∨ sK v i = 0 then -1 else (sM v i : Int))) (by show iI (if sPi w = 0 ∨ sK w i = 0 then -1 else (sM w i : Int)) = _; rw [e_pi, e_k]; exact SIM_mv hs i) ?_
                          refine lv_icmp_ne (tgt := 154) hx hb dL_areAlike_147 (by decide) (fun c_30 => ?_) (fun c_30 => ?_)
                          · have f_31 := c_30
                            exact absurd rfl f_31
                          · have f_32 := c_30
                            refine lv_iconst (v := nI (1)) hx hb dL_areAlike_150 (by decide) ?_
                            refine lv_goto (tgt := 155) hx hb dL_areAlike_151 (by decide) ?_
                            refine lv_istore_n (lv' := [(2, .int (nI (1))), (0, .ref (a 0)), (1, .ref (b 0)), (3, .int (nI (i)))]) hx hb dL_areAlike_155 rfl hl (by decide) rfl (fun ls hl => ?_)
                            refine lv_iinc (v := nI (i + 1)) (lv' := [(3, .int (nI (i + 1))), (2, .int (nI (1))), (0, .ref (a 0)), (1, .ref (b 0))]) hx hb dL_areAlike_156 hl (k := 3) rfl (inc_p i 1) (by decide) rfl (fun ls hl => ?_)
                            refine lv_goto (tgt := 115) hx hb dL_areAlike_159 (by decide) ?_
                            exact ih_115 (i + 1) (by omega) (by omega) locs ls hS (lv_sub hl [2, 3, 1, 0] ((lvc rfl (lvc rfl (lvc rfl (lvc (congrArg Value.int (rfl)) rfl))))))
                exact L_115 (4 + 1) 0 (Nat.lt_succ_self _) (by omega) locs ls hS (lv_sub hl [1, 2, 3, 0] (lvc rfl (lvc rfl (lvc rfl (lvc rfl rfl)))))
              · have f_33 : ¬ (64 : Int) ≤ ((i : Nat) : Int) := fun z => c_19 ((c_le (nI_toInt (n := 64) (by omega)) (nI_toInt (n := i) (by omega))).mpr z)
                refine lv_iload_n hx hb dL_areAlike_58 rfl (lv_at hl 2 rfl) ?_
                refine lv_if_eq (tgt := 113) hx hb dL_areAlike_59 (by decide) (fun c_34 => ?_) (fun c_34 => ?_)
                · have f_35 : (1 : Int) = (0 : Int) := (c_eq (nI_toInt (n := 1) (by omega)) rfl).mp c_34
                  exfalso; omega
                · have f_36 : ¬ (1 : Int) = (0 : Int) := fun z => c_34 ((c_eq (nI_toInt (n := 1) (by omega)) rfl).mpr z)
                  refine lv_aload_n hx hb dL_areAlike_62 rfl (lv_at hl 0 rfl) ?_
                  refine lv_iload_n hx hb dL_areAlike_63 rfl (lv_at hl 3 rfl) ?_
                  refine kPi (va_runV (As := [.int (nI (i))]) (rest := []) ⟨hx, hb, hml, hown, hts⟩ (c_X8_drawnAt a v i (by omega) (oW_now (PP_l hP))) (cwV 1 hts gL_areAlike_X8_drawnAt rfl rfl rfl (by decide +kernel) ⟨(Nat.le_of_ble_eq_true rfl), (Nat.le_of_ble_eq_true rfl)⟩) (preV hC hS hLo (oW_obj (PP_l hP)) (ci := 7) (q0 := 0) rfl rfl) rfl rfl hl.1 rfl (lv_room (Nat.le_of_ble_eq_true rfl)) dL_areAlike_64 ⟨(Nat.le_of_ble_eq_true rfl), (Nat.le_of_ble_eq_true rfl)⟩) hS (fun locs hS => ?_)
                  refine topE (v' := iI (sD v i)) (rfl) ?_
                  refine lv_aload_n hx hb dL_areAlike_67 rfl (lv_at hl 1 rfl) ?_
                  refine lv_iload_n hx hb dL_areAlike_68 rfl (lv_at hl 3 rfl) ?_
                  refine kPi (va_runV (As := [.int (nI (i))]) (rest := [.int (iI (sD v i))]) ⟨hx, hb, hml, hown, hts⟩ (c_X8_drawnAt b w i (by omega) (oW_now (PP_l (PP_r hP)))) (cwV 1 hts gL_areAlike_X8_drawnAt rfl rfl rfl (by decide +kernel) ⟨(Nat.le_of_ble_eq_true rfl), (Nat.le_of_ble_eq_true rfl)⟩) (preV hC hS hLo (oW_obj (PP_l (PP_r hP))) (ci := 7) (q0 := 0) rfl rfl) rfl rfl hl.1 rfl (lv_room (Nat.le_of_ble_eq_true rfl)) dL_areAlike_69 ⟨(Nat.le_of_ble_eq_true rfl), (Nat.le_of_ble_eq_true rfl)⟩) hS (fun locs hS => ?_)
                  refine topE (v' := iI (sD v i)) (congrArg (fun z => iI (z i)) e_d) ?_
                  refine lv_icmp_ne (tgt := 105) hx hb dL_areAlike_72 (by decide) (fun c_37 => ?_) (fun c_37 => ?_)
                  · have f_38 := c_37
                    exact absurd rfl f_38
                  · have f_39 := c_37
                    refine lv_aload_n hx hb dL_areAlike_75 rfl (lv_at hl 0 rfl) ?_
                    refine lv_iload_n hx hb dL_areAlike_76 rfl (lv_at hl 3 rfl) ?_
                    refine kPi (va_runV (As := [.int (nI (i))]) (rest := []) ⟨hx, hb, hml, hown, hts⟩ (c_X8_sentAt a v i (by omega) (oW_now (PP_l hP))) (cwV 1 hts gL_areAlike_X8_sentAt rfl rfl rfl (by decide +kernel) ⟨(Nat.le_of_ble_eq_true rfl), (Nat.le_of_ble_eq_true rfl)⟩) (preV hC hS hLo (oW_obj (PP_l hP)) (ci := 7) (q0 := 0) rfl rfl) rfl rfl hl.1 rfl (lv_room (Nat.le_of_ble_eq_true rfl)) dL_areAlike_77 ⟨(Nat.le_of_ble_eq_true rfl), (Nat.le_of_ble_eq_true rfl)⟩) hS (fun locs hS => ?_)
                    refine topE (v' := iI (sT v i)) (rfl) ?_
                    refine lv_aload_n hx hb dL_areAlike_80 rfl (lv_at hl 1 rfl) ?_
                    refine lv_iload_n hx hb dL_areAlike_81 rfl (lv_at hl 3 rfl) ?_
                    refine kPi (va_runV (As := [.int (nI (i))]) (rest := [.int (iI (sT v i))]) ⟨hx, hb, hml, hown, hts⟩ (c_X8_sentAt b w i (by omega) (oW_now (PP_l (PP_r hP)))) (cwV 1 hts gL_areAlike_X8_sentAt rfl rfl rfl (by decide +kernel) ⟨(Nat.le_of_ble_eq_true rfl), (Nat.le_of_ble_eq_true rfl)⟩) (preV hC hS hLo (oW_obj (PP_l (PP_r hP))) (ci := 7) (q0 := 0) rfl rfl) rfl rfl hl.1 rfl (lv_room (Nat.le_of_ble_eq_true rfl)) dL_areAlike_82 ⟨(Nat.le_of_ble_eq_true rfl), (Nat.le_of_ble_eq_true rfl)⟩) hS (fun locs hS => ?_)
                    refine topE (v' := iI (sT v i)) (congrArg (fun z => iI (z i)) e_t) ?_
                    refine lv_icmp_ne (tgt := 105) hx hb dL_areAlike_85 (by decide) (fun c_40 => ?_) (fun c_40 => ?_)
                    · have f_41 := c_40
                      exact absurd rfl f_41
                    · have f_42 := c_40
                      refine lv_aload_n hx hb dL_areAlike_88 rfl (lv_at hl 0 rfl) ?_
                      refine lv_iload_n hx hb dL_areAlike_89 rfl (lv_at hl 3 rfl) ?_
                      refine kPi (va_runV (As := [.int (nI (i))]) (rest := []) ⟨hx, hb, hml, hown, hts⟩ (c_X8_receivedAt a v i (by omega) (oW_now (PP_l hP))) (cwV 1 hts gL_areAlike_X8_receivedAt rfl rfl rfl (by decide +kernel) ⟨(Nat.le_of_ble_eq_true rfl), (Nat.le_of_ble_eq_true rfl)⟩) (preV hC hS hLo (oW_obj (PP_l hP)) (ci := 7) (q0 := 0) rfl rfl) rfl rfl hl.1 rfl (lv_room (Nat.le_of_ble_eq_true rfl)) dL_areAlike_90 ⟨(Nat.le_of_ble_eq_true rfl), (Nat.le_of_ble_eq_true rfl)⟩) hS (fun locs hS => ?_)
                      refine topE (v' := iI (sG v i)) (rfl) ?_
                      refine lv_aload_n hx hb dL_areAlike_93 rfl (lv_at hl 1 rfl) ?_
                      refine lv_iload_n hx hb dL_areAlike_94 rfl (lv_at hl 3 rfl) ?_
                      refine kPi (va_runV (As := [.int (nI (i))]) (rest := [.int (iI (sG v i))]) ⟨hx, hb, hml, hown, hts⟩ (c_X8_receivedAt b w i (by omega) (oW_now (PP_l (PP_r hP)))) (cwV 1 hts gL_areAlike_X8_receivedAt rfl rfl rfl (by decide +kernel) ⟨(Nat.le_of_ble_eq_true rfl), (Nat.le_of_ble_eq_true rfl)⟩) (preV hC hS hLo (oW_obj (PP_l (PP_r hP))) (ci := 7) (q0 := 0) rfl rfl) rfl rfl hl.1 rfl (lv_room (Nat.le_of_ble_eq_true rfl)) dL_areAlike_95 ⟨(Nat.le_of_ble_eq_true rfl), (Nat.le_of_ble_eq_true rfl)⟩) hS (fun locs hS => ?_)
                      refine topE (v' := iI (sG v i)) (congrArg (fun z => iI (z i)) e_g) ?_
                      refine lv_icmp_ne (tgt := 105) hx hb dL_areAlike_98 (by decide) (fun c_43 => ?_) (fun c_43 => ?_)
                      · have f_44 := c_43
                        exact absurd rfl f_44
                      · have f_45 := c_43
                        refine lv_iconst (v := nI (1)) hx hb dL_areAlike_101 (by decide) ?_
                        refine lv_goto (tgt := 106) hx hb dL_areAlike_102 (by decide) ?_
                        refine lv_istore_n (lv' := [(2, .int (nI (1))), (0, .ref (a 0)), (1, .ref (b 0)), (3, .int (nI (i)))]) hx hb dL_areAlike_106 rfl hl (by decide) rfl (fun ls hl => ?_)
                        refine lv_iinc (v := nI (i + 1)) (lv' := [(3, .int (nI (i + 1))), (2, .int (nI (1))), (0, .ref (a 0)), (1, .ref (b 0))]) hx hb dL_areAlike_107 hl (k := 3) rfl (inc_p i 1) (by decide) rfl (fun ls hl => ?_)
                        refine lv_goto (tgt := 52) hx hb dL_areAlike_110 (by decide) ?_
                        exact ih_52 (i + 1) (by omega) (by omega) locs ls hS (lv_sub hl [2, 3, 1, 0] ((lvc rfl (lvc rfl (lvc rfl (lvc (congrArg Value.int (rfl)) rfl))))))
          exact L_52 (64 + 1) 0 (Nat.lt_succ_self _) (by omega) locs ls hS (lv_sub hl [2, 3, 1, 0] (lvc rfl (lvc rfl (lvc rfl (lvc rfl rfl)))))
