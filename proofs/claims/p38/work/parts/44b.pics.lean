set_option maxHeartbeats 4000000 in
set_option maxRecDepth 100000 in
theorem c_L_arePicturesSo {l : Launch} {G : GT} {H0 : Heap} (a : Nat → Nat) (v : SVT) (j : JT) (hv : OKS v) (hpc : PIC v) (hpi : sPi v ≤ 999) (hP0 : PP G (oW G a v j) H0) : Met l yL_arePicturesSo wsL_arePicturesSo ({ frames := 2, cells := 0, slots := 0, locals := 44 } : Room) (pcG G [.ref (a 0)] H0) (qPi (nI (1)) H0) 0 0 noF := by
  refine enter (cc := cL_arePicturesSo) (maxL := 7) (ret := some .boolean) (own := RL) (lv := [(0, .ref (a 0))]) (by decide) rfl rfl rfl (Nat.le_of_ble_eq_true rfl) ?_
  intro pg ev s m below meth c hx hb hr hts hown hlocks hml hnm hH hC ls hl
  subst hH
  have hLo : ∀ q, noF q → lo G q := fun _ h => h.elim
  have hS : va_S noF s.heap s.heap [] := va_S.rf
  generalize ([] : List Loc) = locs at hS ⊢
  have hP := hP0
  obtain ⟨hd, ht, hg, hk, hbu, hkd⟩ := hv
  obtain ⟨p1, p2, p3, p4, p5⟩ := hpc
  refine lv_iconst (v := nI (0)) hx hb dL_arePicturesSo_0 (by decide) ?_
  refine lv_istore_n (lv' := [(1, .int (nI (0))), (0, .ref (a 0))]) hx hb dL_arePicturesSo_1 rfl hl (by decide) rfl (fun ls hl => ?_)
  refine lv_iconst (v := nI (0)) hx hb dL_arePicturesSo_2 (by decide) ?_
  refine lv_istore_n (lv' := [(2, .int (nI (0))), (1, .int (nI (0))), (0, .ref (a 0))]) hx hb dL_arePicturesSo_3 rfl hl (by decide) rfl (fun ls hl => ?_)
  refine lv_aload_n hx hb dL_arePicturesSo_4 rfl (lv_at hl 2 rfl) ?_
  refine kPi (va_runV (As := []) (rest := []) ⟨hx, hb, hml, hown, hts⟩ (c_X8_lostCount a v (oW_now hP)) (cwV 0 hts gL_arePicturesSo_X8_lostCount rfl rfl rfl (by decide +kernel) ⟨(Nat.le_of_ble_eq_true rfl), (Nat.le_of_ble_eq_true rfl)⟩) (preV hC hS hLo (oW_obj hP) (ci := 7) (q0 := 0) rfl rfl) rfl rfl hl.1 rfl (lv_room (Nat.le_of_ble_eq_true rfl)) dL_arePicturesSo_5 ⟨(Nat.le_of_ble_eq_true rfl), (Nat.le_of_ble_eq_true rfl)⟩) hS (fun locs hS => ?_)
  refine topE (v' := nI (sLo v)) (rfl) ?_
  refine lv_aload_n hx hb dL_arePicturesSo_8 rfl (lv_at hl 2 rfl) ?_
  refine kPi (va_runV (As := []) (rest := [.int (nI (sLo v))]) ⟨hx, hb, hml, hown, hts⟩ (c_X8_pictureCount a v (oW_now hP)) (cwV 0 hts gL_arePicturesSo_X8_pictureCount rfl rfl rfl (by decide +kernel) ⟨(Nat.le_of_ble_eq_true rfl), (Nat.le_of_ble_eq_true rfl)⟩) (preV hC hS hLo (oW_obj hP) (ci := 7) (q0 := 0) rfl rfl) rfl rfl hl.1 rfl (lv_room (Nat.le_of_ble_eq_true rfl)) dL_arePicturesSo_9 ⟨(Nat.le_of_ble_eq_true rfl), (Nat.le_of_ble_eq_true rfl)⟩) hS (fun locs hS => ?_)
  refine topE (v' := nI (sPi v)) (rfl) ?_
  refine lv_icmp_gt (tgt := 47) hx hb dL_arePicturesSo_12 (by decide) (fun c_1 => ?_) (fun c_1 => ?_)
  · have f_2 : ((sPi v : Nat) : Int) < ((sLo v : Nat) : Int) := (c_lt (nI_toInt (n := sPi v) (by omega)) (nI_toInt (n := sLo v) (by omega))).mp c_1
    exfalso; omega
  · have f_3 : ¬ ((sPi v : Nat) : Int) < ((sLo v : Nat) : Int) := fun z => c_1 ((c_lt (nI_toInt (n := sPi v) (by omega)) (nI_toInt (n := sLo v) (by omega))).mpr z)
    refine lv_aload_n hx hb dL_arePicturesSo_15 rfl (lv_at hl 2 rfl) ?_
    refine kPi (va_runV (As := []) (rest := []) ⟨hx, hb, hml, hown, hts⟩ (c_X8_bitCount a v (oW_now hP)) (cwV 0 hts gL_arePicturesSo_X8_bitCount rfl rfl rfl (by decide +kernel) ⟨(Nat.le_of_ble_eq_true rfl), (Nat.le_of_ble_eq_true rfl)⟩) (preV hC hS hLo (oW_obj hP) (ci := 7) (q0 := 0) rfl rfl) rfl rfl hl.1 rfl (lv_room (Nat.le_of_ble_eq_true rfl)) dL_arePicturesSo_16 ⟨(Nat.le_of_ble_eq_true rfl), (Nat.le_of_ble_eq_true rfl)⟩) hS (fun locs hS => ?_)
    refine topE (v' := nI (sBi v)) (rfl) ?_
    refine lv_sipush (v := nI (264)) hx hb dL_arePicturesSo_19 (by decide) ?_
    refine lv_aload_n hx hb dL_arePicturesSo_22 rfl (lv_at hl 2 rfl) ?_
    refine kPi (va_runV (As := []) (rest := [.int (nI (264)), .int (nI (sBi v))]) ⟨hx, hb, hml, hown, hts⟩ (c_X8_pictureCount a v (oW_now hP)) (cwV 0 hts gL_arePicturesSo_X8_pictureCount rfl rfl rfl (by decide +kernel) ⟨(Nat.le_of_ble_eq_true rfl), (Nat.le_of_ble_eq_true rfl)⟩) (preV hC hS hLo (oW_obj hP) (ci := 7) (q0 := 0) rfl rfl) rfl rfl hl.1 rfl (lv_room (Nat.le_of_ble_eq_true rfl)) dL_arePicturesSo_23 ⟨(Nat.le_of_ble_eq_true rfl), (Nat.le_of_ble_eq_true rfl)⟩) hS (fun locs hS => ?_)
    refine topE (v' := nI (sPi v)) (rfl) ?_
    refine gMul (z := nI (264 * (sPi v))) hx hb dL_arePicturesSo_26 (pk_mul _ _) ?_
    refine lv_icmp_gt (tgt := 47) hx hb dL_arePicturesSo_27 (by decide) (fun c_4 => ?_) (fun c_4 => ?_)
    · have f_5 : ((264 * (sPi v) : Nat) : Int) < ((sBi v : Nat) : Int) := (c_lt (nI_toInt (n := 264 * (sPi v)) (by omega)) (nI_toInt (n := sBi v) (by omega))).mp c_4
      exfalso; omega
    · have f_6 : ¬ ((264 * (sPi v) : Nat) : Int) < ((sBi v : Nat) : Int) := fun z => c_4 ((c_lt (nI_toInt (n := 264 * (sPi v)) (by omega)) (nI_toInt (n := sBi v) (by omega))).mpr z)
      refine lv_aload_n hx hb dL_arePicturesSo_30 rfl (lv_at hl 2 rfl) ?_
      refine kPi (va_runV (As := []) (rest := []) ⟨hx, hb, hml, hown, hts⟩ (c_X8_bitCount a v (oW_now hP)) (cwV 0 hts gL_arePicturesSo_X8_bitCount rfl rfl rfl (by decide +kernel) ⟨(Nat.le_of_ble_eq_true rfl), (Nat.le_of_ble_eq_true rfl)⟩) (preV hC hS hLo (oW_obj hP) (ci := 7) (q0 := 0) rfl rfl) rfl rfl hl.1 rfl (lv_room (Nat.le_of_ble_eq_true rfl)) dL_arePicturesSo_31 ⟨(Nat.le_of_ble_eq_true rfl), (Nat.le_of_ble_eq_true rfl)⟩) hS (fun locs hS => ?_)
      refine topE (v' := nI (sBi v)) (rfl) ?_
      refine lv_iconst (v := nI (4)) hx hb dL_arePicturesSo_34 (by decide) ?_
      refine lv_aload_n hx hb dL_arePicturesSo_35 rfl (lv_at hl 2 rfl) ?_
      refine kPi (va_runV (As := []) (rest := [.int (nI (4)), .int (nI (sBi v))]) ⟨hx, hb, hml, hown, hts⟩ (c_X8_pictureCount a v (oW_now hP)) (cwV 0 hts gL_arePicturesSo_X8_pictureCount rfl rfl rfl (by decide +kernel) ⟨(Nat.le_of_ble_eq_true rfl), (Nat.le_of_ble_eq_true rfl)⟩) (preV hC hS hLo (oW_obj hP) (ci := 7) (q0 := 0) rfl rfl) rfl rfl hl.1 rfl (lv_room (Nat.le_of_ble_eq_true rfl)) dL_arePicturesSo_36 ⟨(Nat.le_of_ble_eq_true rfl), (Nat.le_of_ble_eq_true rfl)⟩) hS (fun locs hS => ?_)
      refine topE (v' := nI (sPi v)) (rfl) ?_
      refine gMul (z := nI (4 * (sPi v))) hx hb dL_arePicturesSo_39 (pk_mul _ _) ?_
      refine lv_icmp_lt (tgt := 47) hx hb dL_arePicturesSo_40 (by decide) (fun c_7 => ?_) (fun c_7 => ?_)
      · have f_8 : ((sBi v : Nat) : Int) < ((4 * (sPi v) : Nat) : Int) := (c_lt (nI_toInt (n := sBi v) (by omega)) (nI_toInt (n := 4 * (sPi v)) (by omega))).mp c_7
        exfalso; omega
      · have f_9 : ¬ ((sBi v : Nat) : Int) < ((4 * (sPi v) : Nat) : Int) := fun z => c_7 ((c_lt (nI_toInt (n := sBi v) (by omega)) (nI_toInt (n := 4 * (sPi v)) (by omega))).mpr z)
        refine lv_iconst (v := nI (1)) hx hb dL_arePicturesSo_43 (by decide) ?_
        refine lv_goto (tgt := 48) hx hb dL_arePicturesSo_44 (by decide) ?_
        refine lv_istore_n (lv' := [(3, .int (nI (1))), (2, .int (nI (0))), (1, .int (nI (0))), (0, .ref (a 0))]) hx hb dL_arePicturesSo_48 rfl hl (by decide) rfl (fun ls hl => ?_)
        refine lv_iconst (v := nI (0)) hx hb dL_arePicturesSo_49 (by decide) ?_
        refine lv_istore (lv' := [(4, .int (nI (0))), (3, .int (nI (1))), (2, .int (nI (0))), (1, .int (nI (0))), (0, .ref (a 0))]) hx hb dL_arePicturesSo_50 hl (by decide) rfl (fun ls hl => ?_)
        have L_52 : ∀ (n_52 : Nat) (i : Nat), 64 - i < n_52 → (i ≤ 64) → ∀ (locs : List Loc) (ls : Array Slot), va_S noF s.heap s.heap locs → lv_has ls 7 [(0, .ref (a 0)), (1, .int (iI (sZ (fun j => (sD v j - sT v j) * (sD v j - sT v j)) i))), (2, .int (iI (sZ (fun j => ((sT v j - sG v j).natAbs : Int)) i))), (3, .int (nI (1))), (4, .int (nI (i)))] → W pg l ev ({ frames := 2, cells := 0, slots := 0, locals := 44 } : Room) s m (([.ref (a 0)] : List Value).toArray) below meth c s.heap locs 0 0 (MQ below (qPi (nI (1)) s.heap) (([.ref (a 0)] : List Value).toArray) s 0 0 noF) (F0 m 52 ls []) := by
          intro n_52
          induction n_52 with
          | zero => intro i hn; exact absurd hn (Nat.not_lt_zero _)
          | succ n_52 ih_52 =>
            intro i hn_52 hi9 locs ls hS hl
            refine lv_iload hx hb dL_arePicturesSo_52 (lv_at hl 4 rfl) ?_
            refine lv_bipush (v := nI (64)) hx hb dL_arePicturesSo_54 (by decide) ?_
            refine lv_icmp_ge (tgt := 189) hx hb dL_arePicturesSo_56 (by decide) (fun c_10 => ?_) (fun c_10 => ?_)
            · have f_11 : (64 : Int) ≤ ((i : Nat) : Int) := (c_le (nI_toInt (n := 64) (by omega)) (nI_toInt (n := i) (by omega))).mp c_10
              have e_i : i = 64 := by omega
              replace e_i := e_i.symm
              subst e_i
              refine lv_iconst (v := nI (0)) hx hb dL_arePicturesSo_189 (by decide) ?_
              refine lv_istore (lv' := [(4, .int (nI (0))), (0, .ref (a 0)), (1, .int (iI (sZ (fun j => (sD v j - sT v j) * (sD v j - sT v j)) 64))), (2, .int (iI (sZ (fun j => ((sT v j - sG v j).natAbs : Int)) 64))), (3, .int (nI (1)))]) hx hb dL_arePicturesSo_190 hl (by decide) rfl (fun ls hl => ?_)
              have L_192 : ∀ (n_192 : Nat) (i : Nat), 4 - i < n_192 → (i ≤ 4) → ∀ (locs : List Loc) (ls : Array Slot), va_S noF s.heap s.heap locs → lv_has ls 7 [(0, .ref (a 0)), (1, .int (iI (sZ (fun j => (sD v j - sT v j) * (sD v j - sT v j)) 64))), (2, .int (iI (sZ (fun j => ((sT v j - sG v j).natAbs : Int)) 64))), (3, .int (nI (1))), (4, .int (nI (i)))] → W pg l ev ({ frames := 2, cells := 0, slots := 0, locals := 44 } : Room) s m (([.ref (a 0)] : List Value).toArray) below meth c s.heap locs 0 0 (MQ below (qPi (nI (1)) s.heap) (([.ref (a 0)] : List Value).toArray) s 0 0 noF) (F0 m 192 ls []) := by
                intro n_192
                induction n_192 with
                | zero => intro i hn; exact absurd hn (Nat.not_lt_zero _)
                | succ n_192 ih_192 =>
                  intro i hn_192 hi9 locs ls hS hl
                  refine lv_iload hx hb dL_arePicturesSo_192 (lv_at hl 4 rfl) ?_
                  refine lv_iconst (v := nI (4)) hx hb dL_arePicturesSo_194 (by decide) ?_
                  refine lv_icmp_ge (tgt := 300) hx hb dL_arePicturesSo_195 (by decide) (fun c_12 => ?_) (fun c_12 => ?_)
                  · have f_13 : (4 : Int) ≤ ((i : Nat) : Int) := (c_le (nI_toInt (n := 4) (by omega)) (nI_toInt (n := i) (by omega))).mp c_12
                    have hzd : 0 ≤ sZ (fun j => ((sT v j - sG v j).natAbs : Int)) 64 ∧ sZ (fun j => ((sT v j - sG v j).natAbs : Int)) 64 ≤ 15 * ((64 : Nat) : Int) := sZ_in (fun k => by have h1 : 0 ≤ sT v k ∧ sT v k ≤ 15 := ht k; have h2 : 0 ≤ sG v k ∧ sG v k ≤ 15 := hg k; show 0 ≤ ((sT v k - sG v k).natAbs : Int) ∧ ((sT v k - sG v k).natAbs : Int) ≤ 15; omega) 64
                    refine lv_iload_n hx hb dL_arePicturesSo_300 rfl (lv_at hl 3 rfl) ?_
                    refine lv_if_eq (tgt := 335) hx hb dL_arePicturesSo_301 (by decide) (fun c_14 => ?_) (fun c_14 => ?_)
                    · have f_15 : (1 : Int) = (0 : Int) := (c_eq (nI_toInt (n := 1) (by omega)) rfl).mp c_14
                      exfalso; omega
                    · have f_16 : ¬ (1 : Int) = (0 : Int) := fun z => c_14 ((c_eq (nI_toInt (n := 1) (by omega)) rfl).mpr z)
                      refine lv_aload_n hx hb dL_arePicturesSo_304 rfl (lv_at hl 0 rfl) ?_
                      refine kPi (va_runV (As := []) (rest := []) ⟨hx, hb, hml, hown, hts⟩ (c_X8_error a v hd ht hg (oW_now hP)) (cwV 0 hts gL_arePicturesSo_X8_error rfl rfl rfl (by decide +kernel) ⟨(Nat.le_of_ble_eq_true rfl), (Nat.le_of_ble_eq_true rfl)⟩) (preV hC hS hLo (oW_obj hP) (ci := 7) (q0 := 0) rfl rfl) rfl rfl hl.1 rfl (lv_room (Nat.le_of_ble_eq_true rfl)) dL_arePicturesSo_305 ⟨(Nat.le_of_ble_eq_true rfl), (Nat.le_of_ble_eq_true rfl)⟩) hS (fun locs hS => ?_)
                      refine topE (v' := iI (sZ (fun j => (sD v j - sT v j) * (sD v j - sT v j)) 64)) (rfl) ?_
                      refine lv_iload_n hx hb dL_arePicturesSo_308 rfl (lv_at hl 1 rfl) ?_
                      refine lv_icmp_ne (tgt := 335) hx hb dL_arePicturesSo_309 (by decide) (fun c_17 => ?_) (fun c_17 => ?_)
                      · have f_18 := c_17
                        exact absurd rfl f_18
                      · have f_19 := c_17
                        refine lv_aload_n hx hb dL_arePicturesSo_312 rfl (lv_at hl 0 rfl) ?_
                        refine kPi (va_runV (As := []) (rest := []) ⟨hx, hb, hml, hown, hts⟩ (c_X8_drift a v hd ht hg (oW_now hP)) (cwV 0 hts gL_arePicturesSo_X8_drift rfl rfl rfl (by decide +kernel) ⟨(Nat.le_of_ble_eq_true rfl), (Nat.le_of_ble_eq_true rfl)⟩) (preV hC hS hLo (oW_obj hP) (ci := 7) (q0 := 0) rfl rfl) rfl rfl hl.1 rfl (lv_room (Nat.le_of_ble_eq_true rfl)) dL_arePicturesSo_313 ⟨(Nat.le_of_ble_eq_true rfl), (Nat.le_of_ble_eq_true rfl)⟩) hS (fun locs hS => ?_)
                        refine topE (v' := iI (sZ (fun j => ((sT v j - sG v j).natAbs : Int)) 64)) (rfl) ?_
                        refine lv_iload_n hx hb dL_arePicturesSo_316 rfl (lv_at hl 2 rfl) ?_
                        refine lv_icmp_ne (tgt := 335) hx hb dL_arePicturesSo_317 (by decide) (fun c_20 => ?_) (fun c_20 => ?_)
                        · have f_21 := c_20
                          exact absurd rfl f_21
                        · have f_22 := c_20
                          refine lv_aload_n hx hb dL_arePicturesSo_320 rfl (lv_at hl 0 rfl) ?_
                          refine kPi (va_runV (As := []) (rest := []) ⟨hx, hb, hml, hown, hts⟩ (c_X8_lostCount a v (oW_now hP)) (cwV 0 hts gL_arePicturesSo_X8_lostCount rfl rfl rfl (by decide +kernel) ⟨(Nat.le_of_ble_eq_true rfl), (Nat.le_of_ble_eq_true rfl)⟩) (preV hC hS hLo (oW_obj hP) (ci := 7) (q0 := 0) rfl rfl) rfl rfl hl.1 rfl (lv_room (Nat.le_of_ble_eq_true rfl)) dL_arePicturesSo_321 ⟨(Nat.le_of_ble_eq_true rfl), (Nat.le_of_ble_eq_true rfl)⟩) hS (fun locs hS => ?_)
                          refine topE (v' := nI (sLo v)) (rfl) ?_
                          refine lv_if_gt (tgt := 331) hx hb dL_arePicturesSo_324 (by decide) (fun c_23 => ?_) (fun c_23 => ?_)
                          · have f_24 : (0 : Int) < ((sLo v : Nat) : Int) := (c_lt rfl (nI_toInt (n := sLo v) (by omega))).mp c_23
                            refine lv_iconst (v := nI (1)) hx hb dL_arePicturesSo_331 (by decide) ?_
                            refine lv_goto (tgt := 336) hx hb dL_arePicturesSo_332 (by decide) ?_
                            exact xPi hx hb hr hlocks hS (by exact rfl) (by exact rfl) dL_arePicturesSo_336
                          · have f_25 : ¬ (0 : Int) < ((sLo v : Nat) : Int) := fun z => c_23 ((c_lt rfl (nI_toInt (n := sLo v) (by omega))).mpr z)
                            refine lv_iload_n hx hb dL_arePicturesSo_327 rfl (lv_at hl 2 rfl) ?_
                            refine lv_if_ne (tgt := 335) hx hb dL_arePicturesSo_328 (by decide) (fun c_26 => ?_) (fun c_26 => ?_)
                            · have f_27 : ¬ (sZ (fun j => ((sT v j - sG v j).natAbs : Int)) 64) = (0 : Int) := fun z => c_26 ((c_eq (iI_toInt (by omega) (by omega)) rfl).mpr z)
                              exact absurd (drf_0 (p5 (by omega))) f_27
                            · have f_28 : (sZ (fun j => ((sT v j - sG v j).natAbs : Int)) 64) = (0 : Int) := (c_eq (iI_toInt (by omega) (by omega)) rfl).mp c_26
                              refine lv_iconst (v := nI (1)) hx hb dL_arePicturesSo_331 (by decide) ?_
                              refine lv_goto (tgt := 336) hx hb dL_arePicturesSo_332 (by decide) ?_
                              exact xPi hx hb hr hlocks hS (by exact rfl) (by exact rfl) dL_arePicturesSo_336
                  · have f_29 : ¬ (4 : Int) ≤ ((i : Nat) : Int) := fun z => c_12 ((c_le (nI_toInt (n := 4) (by omega)) (nI_toInt (n := i) (by omega))).mpr z)
                    by_cases hz9 : sPi v = 0
                    · skip
                      refine lv_aload_n hx hb dL_arePicturesSo_198 rfl (lv_at hl 0 rfl) ?_
                      by_cases hk9 : sK v i = 0
                      · skip
                        refine lv_iload hx hb dL_arePicturesSo_199 (lv_at hl 4 rfl) ?_
                        by_cases hk9b : sK v i = 1
                        · skip
                          refine kPi (va_runV (As := [.int (nI (i))]) (rest := []) ⟨hx, hb, hml, hown, hts⟩ (c_X8_lastKind a v i (by omega) hkd hpi (oW_now hP)) (cwV 1 hts gL_arePicturesSo_X8_lastKind rfl rfl rfl (by decide +kernel) ⟨(Nat.le_of_ble_eq_true rfl), (Nat.le_of_ble_eq_true rfl)⟩) (preV hC hS hLo (oW_obj hP) (ci := 7) (q0 := 0) rfl rfl) rfl rfl hl.1 rfl (lv_room (Nat.le_of_ble_eq_true rfl)) dL_arePicturesSo_201 ⟨(Nat.le_of_ble_eq_true rfl), (Nat.le_of_ble_eq_true rfl)⟩) hS (fun locs hS => ?_)
                          refine topE (v' := iI (-1)) (by show iI (if sPi v = 0 then -1 else (sK v i : Int)) = _; rw [if_pos hz9]) ?_
                          refine lv_istore (lv' := [(5, .int (iI (-1))), (0, .ref (a 0)), (1, .int (iI (sZ (fun j => (sD v j - sT v j) * (sD v j - sT v j)) 64))), (2, .int (iI (sZ (fun j => ((sT v j - sG v j).natAbs : Int)) 64))), (3, .int (nI (1))), (4, .int (nI (i)))]) hx hb dL_arePicturesSo_204 hl (by decide) rfl (fun ls hl => ?_)
                          refine lv_aload_n hx hb dL_arePicturesSo_206 rfl (lv_at hl 1 rfl) ?_
                          refine lv_iload hx hb dL_arePicturesSo_207 (lv_at hl 5 rfl) ?_
                          refine kPi (va_runV (As := [.int (nI (i))]) (rest := []) ⟨hx, hb, hml, hown, hts⟩ (c_X8_lastMove a v i (by omega) hkd hpi (hk i) (oW_now hP)) (cwV 1 hts gL_arePicturesSo_X8_lastMove rfl rfl rfl (by decide +kernel) ⟨(Nat.le_of_ble_eq_true rfl), (Nat.le_of_ble_eq_true rfl)⟩) (preV hC hS hLo (oW_obj hP) (ci := 7) (q0 := 0) rfl rfl) rfl rfl hl.1 rfl (lv_room (Nat.le_of_ble_eq_true rfl)) dL_arePicturesSo_209 ⟨(Nat.le_of_ble_eq_true rfl), (Nat.le_of_ble_eq_true rfl)⟩) hS (fun locs hS => ?_)
                          refine topE (v' := iI (-1)) (by show iI (if sPi v = 0 ∨ sK v i = 0 then -1 else (sM v i : Int)) = _; rw [if_pos (Or.inl hz9)]) ?_
                          refine lv_istore (lv' := [(6, .int (iI (-1))), (5, .int (iI (-1))), (0, .ref (a 0)), (1, .int (iI (sZ (fun j => (sD v j - sT v j) * (sD v j - sT v j)) 64))), (2, .int (iI (sZ (fun j => ((sT v j - sG v j).natAbs : Int)) 64))), (3, .int (nI (1))), (4, .int (nI (i)))]) hx hb dL_arePicturesSo_212 hl (by decide) rfl (fun ls hl => ?_)
                          refine lv_iload_n hx hb dL_arePicturesSo_214 rfl (lv_at hl 5 rfl) ?_
                          refine lv_if_eq (tgt := 292) hx hb dL_arePicturesSo_215 (by decide) (fun c_30 => ?_) (fun c_30 => ?_)
                          · have f_31 : (1 : Int) = (0 : Int) := (c_eq (nI_toInt (n := 1) (by omega)) rfl).mp c_30
                            exfalso; omega
                          · have f_32 : ¬ (1 : Int) = (0 : Int) := fun z => c_30 ((c_eq (nI_toInt (n := 1) (by omega)) rfl).mpr z)
                            refine lv_aload_n hx hb dL_arePicturesSo_218 rfl (lv_at hl 2 rfl) ?_
                            refine kPi (va_runV (As := []) (rest := []) ⟨hx, hb, hml, hown, hts⟩ (c_X8_pictureCount a v (oW_now hP)) (cwV 0 hts gL_arePicturesSo_X8_pictureCount rfl rfl rfl (by decide +kernel) ⟨(Nat.le_of_ble_eq_true rfl), (Nat.le_of_ble_eq_true rfl)⟩) (preV hC hS hLo (oW_obj hP) (ci := 7) (q0 := 0) rfl rfl) rfl rfl hl.1 rfl (lv_room (Nat.le_of_ble_eq_true rfl)) dL_arePicturesSo_219 ⟨(Nat.le_of_ble_eq_true rfl), (Nat.le_of_ble_eq_true rfl)⟩) hS (fun locs hS => ?_)
                            refine topE (v' := nI (sPi v)) (rfl) ?_
                            refine lv_if_ne (tgt := 240) hx hb dL_arePicturesSo_222 (by decide) (fun c_33 => ?_) (fun c_33 => ?_)
                            · have f_34 : ¬ ((sPi v : Nat) : Int) = (0 : Int) := fun z => c_33 ((c_eq (nI_toInt (n := sPi v) (by omega)) rfl).mpr z)
                              exfalso; omega
                            · have f_35 : ((sPi v : Nat) : Int) = (0 : Int) := (c_eq (nI_toInt (n := sPi v) (by omega)) rfl).mp c_33
                              refine lv_iload hx hb dL_arePicturesSo_225 (lv_at hl 1 rfl) ?_
                              refine lv_iconst (v := iI (-1)) hx hb dL_arePicturesSo_227 (by decide) ?_
                              refine lv_icmp_ne (tgt := 292) hx hb dL_arePicturesSo_228 (by decide) (fun c_36 => ?_) (fun c_36 => ?_)
                              · have f_37 := c_36
                                exact absurd rfl f_37
                              · have f_38 := c_36
                                refine lv_iload hx hb dL_arePicturesSo_231 (lv_at hl 0 rfl) ?_
                                refine lv_iconst (v := iI (-1)) hx hb dL_arePicturesSo_233 (by decide) ?_
                                refine lv_icmp_ne (tgt := 292) hx hb dL_arePicturesSo_234 (by decide) (fun c_39 => ?_) (fun c_39 => ?_)
                                · have f_40 := c_39
                                  exact absurd rfl f_40
                                · have f_41 := c_39
                                  refine lv_goto (tgt := 288) hx hb dL_arePicturesSo_237 (by decide) ?_
                                  refine lv_iconst (v := nI (1)) hx hb dL_arePicturesSo_288 (by decide) ?_
                                  refine lv_goto (tgt := 293) hx hb dL_arePicturesSo_289 (by decide) ?_
                                  refine lv_istore_n (lv' := [(3, .int (nI (1))), (6, .int (iI (-1))), (5, .int (iI (-1))), (0, .ref (a 0)), (1, .int (iI (sZ (fun j => (sD v j - sT v j) * (sD v j - sT v j)) 64))), (2, .int (iI (sZ (fun j => ((sT v j - sG v j).natAbs : Int)) 64))), (4, .int (nI (i)))]) hx hb dL_arePicturesSo_293 rfl hl (by decide) rfl (fun ls hl => ?_)
                                  refine lv_iinc (v := nI (i + 1)) (lv' := [(4, .int (nI (i + 1))), (3, .int (nI (1))), (6, .int (iI (-1))), (5, .int (iI (-1))), (0, .ref (a 0)), (1, .int (iI (sZ (fun j => (sD v j - sT v j) * (sD v j - sT v j)) 64))), (2, .int (iI (sZ (fun j => ((sT v j - sG v j).natAbs : Int)) 64)))]) hx hb dL_arePicturesSo_294 hl (k := 6) rfl (inc_p i 1) (by decide) rfl (fun ls hl => ?_)
                                  refine lv_goto (tgt := 192) hx hb dL_arePicturesSo_297 (by decide) ?_
                                  exact ih_192 (i + 1) (by omega) (by omega) locs ls hS (lv_sub hl [4, 5, 6, 1, 0] ((lvc rfl (lvc rfl (lvc rfl (lvc rfl (lvc (congrArg Value.int (rfl)) rfl)))))))
                        · skip
                          refine kPi (va_runV (As := [.int (nI (i))]) (rest := []) ⟨hx, hb, hml, hown, hts⟩ (c_X8_lastKind a v i (by omega) hkd hpi (oW_now hP)) (cwV 1 hts gL_arePicturesSo_X8_lastKind rfl rfl rfl (by decide +kernel) ⟨(Nat.le_of_ble_eq_true rfl), (Nat.le_of_ble_eq_true rfl)⟩) (preV hC hS hLo (oW_obj hP) (ci := 7) (q0 := 0) rfl rfl) rfl rfl hl.1 rfl (lv_room (Nat.le_of_ble_eq_true rfl)) dL_arePicturesSo_201 ⟨(Nat.le_of_ble_eq_true rfl), (Nat.le_of_ble_eq_true rfl)⟩) hS (fun locs hS => ?_)
                          refine topE (v' := iI (-1)) (by show iI (if sPi v = 0 then -1 else (sK v i : Int)) = _; rw [if_pos hz9]) ?_
                          refine lv_istore (lv' := [(5, .int (iI (-1))), (0, .ref (a 0)), (1, .int (iI (sZ (fun j => (sD v j - sT v j) * (sD v j - sT v j)) 64))), (2, .int (iI (sZ (fun j => ((sT v j - sG v j).natAbs : Int)) 64))), (3, .int (nI (1))), (4, .int (nI (i)))]) hx hb dL_arePicturesSo_204 hl (by decide) rfl (fun ls hl => ?_)
                          refine lv_aload_n hx hb dL_arePicturesSo_206 rfl (lv_at hl 1 rfl) ?_
                          refine lv_iload hx hb dL_arePicturesSo_207 (lv_at hl 5 rfl) ?_
                          refine kPi (va_runV (As := [.int (nI (i))]) (rest := []) ⟨hx, hb, hml, hown, hts⟩ (c_X8_lastMove a v i (by omega) hkd hpi (hk i) (oW_now hP)) (cwV 1 hts gL_arePicturesSo_X8_lastMove rfl rfl rfl (by decide +kernel) ⟨(Nat.le_of_ble_eq_true rfl), (Nat.le_of_ble_eq_true rfl)⟩) (preV hC hS hLo (oW_obj hP) (ci := 7) (q0 := 0) rfl rfl) rfl rfl hl.1 rfl (lv_room (Nat.le_of_ble_eq_true rfl)) dL_arePicturesSo_209 ⟨(Nat.le_of_ble_eq_true rfl), (Nat.le_of_ble_eq_true rfl)⟩) hS (fun locs hS => ?_)
                          refine topE (v' := iI (-1)) (by show iI (if sPi v = 0 ∨ sK v i = 0 then -1 else (sM v i : Int)) = _; rw [if_pos (Or.inl hz9)]) ?_
                          refine lv_istore (lv' := [(6, .int (iI (-1))), (5, .int (iI (-1))), (0, .ref (a 0)), (1, .int (iI (sZ (fun j => (sD v j - sT v j) * (sD v j - sT v j)) 64))), (2, .int (iI (sZ (fun j => ((sT v j - sG v j).natAbs : Int)) 64))), (3, .int (nI (1))), (4, .int (nI (i)))]) hx hb dL_arePicturesSo_212 hl (by decide) rfl (fun ls hl => ?_)
                          refine lv_iload_n hx hb dL_arePicturesSo_214 rfl (lv_at hl 5 rfl) ?_
                          refine lv_if_eq (tgt := 292) hx hb dL_arePicturesSo_215 (by decide) (fun c_42 => ?_) (fun c_42 => ?_)
                          · have f_43 : (1 : Int) = (0 : Int) := (c_eq (nI_toInt (n := 1) (by omega)) rfl).mp c_42
                            exfalso; omega
                          · have f_44 : ¬ (1 : Int) = (0 : Int) := fun z => c_42 ((c_eq (nI_toInt (n := 1) (by omega)) rfl).mpr z)
                            refine lv_aload_n hx hb dL_arePicturesSo_218 rfl (lv_at hl 2 rfl) ?_
                            refine kPi (va_runV (As := []) (rest := []) ⟨hx, hb, hml, hown, hts⟩ (c_X8_pictureCount a v (oW_now hP)) (cwV 0 hts gL_arePicturesSo_X8_pictureCount rfl rfl rfl (by decide +kernel) ⟨(Nat.le_of_ble_eq_true rfl), (Nat.le_of_ble_eq_true rfl)⟩) (preV hC hS hLo (oW_obj hP) (ci := 7) (q0 := 0) rfl rfl) rfl rfl hl.1 rfl (lv_room (Nat.le_of_ble_eq_true rfl)) dL_arePicturesSo_219 ⟨(Nat.le_of_ble_eq_true rfl), (Nat.le_of_ble_eq_true rfl)⟩) hS (fun locs hS => ?_)
                            refine topE (v' := nI (sPi v)) (rfl) ?_
                            refine lv_if_ne (tgt := 240) hx hb dL_arePicturesSo_222 (by decide) (fun c_45 => ?_) (fun c_45 => ?_)
                            · have f_46 : ¬ ((sPi v : Nat) : Int) = (0 : Int) := fun z => c_45 ((c_eq (nI_toInt (n := sPi v) (by omega)) rfl).mpr z)
                              exfalso; omega
                            · have f_47 : ((sPi v : Nat) : Int) = (0 : Int) := (c_eq (nI_toInt (n := sPi v) (by omega)) rfl).mp c_45
                              refine lv_iload hx hb dL_arePicturesSo_225 (lv_at hl 1 rfl) ?_
                              refine lv_iconst (v := iI (-1)) hx hb dL_arePicturesSo_227 (by decide) ?_
                              refine lv_icmp_ne (tgt := 292) hx hb dL_arePicturesSo_228 (by decide) (fun c_48 => ?_) (fun c_48 => ?_)
                              · have f_49 := c_48
                                exact absurd rfl f_49
                              · have f_50 := c_48
                                refine lv_iload hx hb dL_arePicturesSo_231 (lv_at hl 0 rfl) ?_
                                refine lv_iconst (v := iI (-1)) hx hb dL_arePicturesSo_233 (by decide) ?_
                                refine lv_icmp_ne (tgt := 292) hx hb dL_arePicturesSo_234 (by decide) (fun c_51 => ?_) (fun c_51 => ?_)
                                · have f_52 := c_51
                                  exact absurd rfl f_52
                                · have f_53 := c_51
                                  refine lv_goto (tgt := 288) hx hb dL_arePicturesSo_237 (by decide) ?_
                                  refine lv_iconst (v := nI (1)) hx hb dL_arePicturesSo_288 (by decide) ?_
                                  refine lv_goto (tgt := 293) hx hb dL_arePicturesSo_289 (by decide) ?_
                                  refine lv_istore_n (lv' := [(3, .int (nI (1))), (6, .int (iI (-1))), (5, .int (iI (-1))), (0, .ref (a 0)), (1, .int (iI (sZ (fun j => (sD v j - sT v j) * (sD v j - sT v j)) 64))), (2, .int (iI (sZ (fun j => ((sT v j - sG v j).natAbs : Int)) 64))), (4, .int (nI (i)))]) hx hb dL_arePicturesSo_293 rfl hl (by decide) rfl (fun ls hl => ?_)
                                  refine lv_iinc (v := nI (i + 1)) (lv' := [(4, .int (nI (i + 1))), (3, .int (nI (1))), (6, .int (iI (-1))), (5, .int (iI (-1))), (0, .ref (a 0)), (1, .int (iI (sZ (fun j => (sD v j - sT v j) * (sD v j - sT v j)) 64))), (2, .int (iI (sZ (fun j => ((sT v j - sG v j).natAbs : Int)) 64)))]) hx hb dL_arePicturesSo_294 hl (k := 6) rfl (inc_p i 1) (by decide) rfl (fun ls hl => ?_)
                                  refine lv_goto (tgt := 192) hx hb dL_arePicturesSo_297 (by decide) ?_
                                  exact ih_192 (i + 1) (by omega) (by omega) locs ls hS (lv_sub hl [4, 5, 6, 1, 0] ((lvc rfl (lvc rfl (lvc rfl (lvc rfl (lvc (congrArg Value.int (rfl)) rfl)))))))
                      · skip
                        refine lv_iload hx hb dL_arePicturesSo_199 (lv_at hl 4 rfl) ?_
                        by_cases hk9b : sK v i = 1
                        · skip
                          refine kPi (va_runV (As := [.int (nI (i))]) (rest := []) ⟨hx, hb, hml, hown, hts⟩ (c_X8_lastKind a v i (by omega) hkd hpi (oW_now hP)) (cwV 1 hts gL_arePicturesSo_X8_lastKind rfl rfl rfl (by decide +kernel) ⟨(Nat.le_of_ble_eq_true rfl), (Nat.le_of_ble_eq_true rfl)⟩) (preV hC hS hLo (oW_obj hP) (ci := 7) (q0 := 0) rfl rfl) rfl rfl hl.1 rfl (lv_room (Nat.le_of_ble_eq_true rfl)) dL_arePicturesSo_201 ⟨(Nat.le_of_ble_eq_true rfl), (Nat.le_of_ble_eq_true rfl)⟩) hS (fun locs hS => ?_)
                          refine topE (v' := iI (-1)) (by show iI (if sPi v = 0 then -1 else (sK v i : Int)) = _; rw [if_pos hz9]) ?_
                          refine lv_istore (lv' := [(5, .int (iI (-1))), (0, .ref (a 0)), (1, .int (iI (sZ (fun j => (sD v j - sT v j) * (sD v j - sT v j)) 64))), (2, .int (iI (sZ (fun j => ((sT v j - sG v j).natAbs : Int)) 64))), (3, .int (nI (1))), (4, .int (nI (i)))]) hx hb dL_arePicturesSo_204 hl (by decide) rfl (fun ls hl => ?_)
                          refine lv_aload_n hx hb dL_arePicturesSo_206 rfl (lv_at hl 1 rfl) ?_
                          refine lv_iload hx hb dL_arePicturesSo_207 (lv_at hl 5 rfl) ?_
                          refine kPi (va_runV (As := [.int (nI (i))]) (rest := []) ⟨hx, hb, hml, hown, hts⟩ (c_X8_lastMove a v i (by omega) hkd hpi (hk i) (oW_now hP)) (cwV 1 hts gL_arePicturesSo_X8_lastMove rfl rfl rfl (by decide +kernel) ⟨(Nat.le_of_ble_eq_true rfl), (Nat.le_of_ble_eq_true rfl)⟩) (preV hC hS hLo (oW_obj hP) (ci := 7) (q0 := 0) rfl rfl) rfl rfl hl.1 rfl (lv_room (Nat.le_of_ble_eq_true rfl)) dL_arePicturesSo_209 ⟨(Nat.le_of_ble_eq_true rfl), (Nat.le_of_ble_eq_true rfl)⟩) hS (fun locs hS => ?_)
                          refine topE (v' := iI (-1)) (by show iI (if sPi v = 0 ∨ sK v i = 0 then -1 else (sM v i : Int)) = _; rw [if_pos (Or.inl hz9)]) ?_
                          refine lv_istore (lv' := [(6, .int (iI (-1))), (5, .int (iI (-1))), (0, .ref (a 0)), (1, .int (iI (sZ (fun j => (sD v j - sT v j) * (sD v j - sT v j)) 64))), (2, .int (iI (sZ (fun j => ((sT v j - sG v j).natAbs : Int)) 64))), (3, .int (nI (1))), (4, .int (nI (i)))]) hx hb dL_arePicturesSo_212 hl (by decide) rfl (fun ls hl => ?_)
                          refine lv_iload_n hx hb dL_arePicturesSo_214 rfl (lv_at hl 5 rfl) ?_
                          refine lv_if_eq (tgt := 292) hx hb dL_arePicturesSo_215 (by decide) (fun c_54 => ?_) (fun c_54 => ?_)
                          · have f_55 : (1 : Int) = (0 : Int) := (c_eq (nI_toInt (n := 1) (by omega)) rfl).mp c_54
                            exfalso; omega
                          · have f_56 : ¬ (1 : Int) = (0 : Int) := fun z => c_54 ((c_eq (nI_toInt (n := 1) (by omega)) rfl).mpr z)
                            refine lv_aload_n hx hb dL_arePicturesSo_218 rfl (lv_at hl 2 rfl) ?_
                            refine kPi (va_runV (As := []) (rest := []) ⟨hx, hb, hml, hown, hts⟩ (c_X8_pictureCount a v (oW_now hP)) (cwV 0 hts gL_arePicturesSo_X8_pictureCount rfl rfl rfl (by decide +kernel) ⟨(Nat.le_of_ble_eq_true rfl), (Nat.le_of_ble_eq_true rfl)⟩) (preV hC hS hLo (oW_obj hP) (ci := 7) (q0 := 0) rfl rfl) rfl rfl hl.1 rfl (lv_room (Nat.le_of_ble_eq_true rfl)) dL_arePicturesSo_219 ⟨(Nat.le_of_ble_eq_true rfl), (Nat.le_of_ble_eq_true rfl)⟩) hS (fun locs hS => ?_)
                            refine topE (v' := nI (sPi v)) (rfl) ?_
                            refine lv_if_ne (tgt := 240) hx hb dL_arePicturesSo_222 (by decide) (fun c_57 => ?_) (fun c_57 => ?_)
                            · have f_58 : ¬ ((sPi v : Nat) : Int) = (0 : Int) := fun z => c_57 ((c_eq (nI_toInt (n := sPi v) (by omega)) rfl).mpr z)
                              exfalso; omega
                            · have f_59 : ((sPi v : Nat) : Int) = (0 : Int) := (c_eq (nI_toInt (n := sPi v) (by omega)) rfl).mp c_57
                              refine lv_iload hx hb dL_arePicturesSo_225 (lv_at hl 1 rfl) ?_
                              refine lv_iconst (v := iI (-1)) hx hb dL_arePicturesSo_227 (by decide) ?_
                              refine lv_icmp_ne (tgt := 292) hx hb dL_arePicturesSo_228 (by decide) (fun c_60 => ?_) (fun c_60 => ?_)
                              · have f_61 := c_60
                                exact absurd rfl f_61
                              · have f_62 := c_60
                                refine lv_iload hx hb dL_arePicturesSo_231 (lv_at hl 0 rfl) ?_
                                refine lv_iconst (v := iI (-1)) hx hb dL_arePicturesSo_233 (by decide) ?_
                                refine lv_icmp_ne (tgt := 292) hx hb dL_arePicturesSo_234 (by decide) (fun c_63 => ?_) (fun c_63 => ?_)
                                · have f_64 := c_63
                                  exact absurd rfl f_64
                                · have f_65 := c_63
                                  refine lv_goto (tgt := 288) hx hb dL_arePicturesSo_237 (by decide) ?_
                                  refine lv_iconst (v := nI (1)) hx hb dL_arePicturesSo_288 (by decide) ?_
                                  refine lv_goto (tgt := 293) hx hb dL_arePicturesSo_289 (by decide) ?_
                                  refine lv_istore_n (lv' := [(3, .int (nI (1))), (6, .int (iI (-1))), (5, .int (iI (-1))), (0, .ref (a 0)), (1, .int (iI (sZ (fun j => (sD v j - sT v j) * (sD v j - sT v j)) 64))), (2, .int (iI (sZ (fun j => ((sT v j - sG v j).natAbs : Int)) 64))), (4, .int (nI (i)))]) hx hb dL_arePicturesSo_293 rfl hl (by decide) rfl (fun ls hl => ?_)
                                  refine lv_iinc (v := nI (i + 1)) (lv' := [(4, .int (nI (i + 1))), (3, .int (nI (1))), (6, .int (iI (-1))), (5, .int (iI (-1))), (0, .ref (a 0)), (1, .int (iI (sZ (fun j => (sD v j - sT v j) * (sD v j - sT v j)) 64))), (2, .int (iI (sZ (fun j => ((sT v j - sG v j).natAbs : Int)) 64)))]) hx hb dL_arePicturesSo_294 hl (k := 6) rfl (inc_p i 1) (by decide) rfl (fun ls hl => ?_)
                                  refine lv_goto (tgt := 192) hx hb dL_arePicturesSo_297 (by decide) ?_
                                  exact ih_192 (i + 1) (by omega) (by omega) locs ls hS (lv_sub hl [4, 5, 6, 1, 0] ((lvc rfl (lvc rfl (lvc rfl (lvc rfl (lvc (congrArg Value.int (rfl)) rfl)))))))
                        · skip
                          refine kPi (va_runV (As := [.int (nI (i))]) (rest := []) ⟨hx, hb, hml, hown, hts⟩ (c_X8_lastKind a v i (by omega) hkd hpi (oW_now hP)) (cwV 1 hts gL_arePicturesSo_X8_lastKind rfl rfl rfl (by decide +kernel) ⟨(Nat.le_of_ble_eq_true rfl), (Nat.le_of_ble_eq_true rfl)⟩) (preV hC hS hLo (oW_obj hP) (ci := 7) (q0 := 0) rfl rfl) rfl rfl hl.1 rfl (lv_room (Nat.le_of_ble_eq_true rfl)) dL_arePicturesSo_201 ⟨(Nat.le_of_ble_eq_true rfl), (Nat.le_of_ble_eq_true rfl)⟩) hS (fun locs hS => ?_)
                          refine topE (v' := iI (-1)) (by show iI (if sPi v = 0 then -1 else (sK v i : Int)) = _; rw [if_pos hz9]) ?_
                          refine lv_istore (lv' := [(5, .int (iI (-1))), (0, .ref (a 0)), (1, .int (iI (sZ (fun j => (sD v j - sT v j) * (sD v j - sT v j)) 64))), (2, .int (iI (sZ (fun j => ((sT v j - sG v j).natAbs : Int)) 64))), (3, .int (nI (1))), (4, .int (nI (i)))]) hx hb dL_arePicturesSo_204 hl (by decide) rfl (fun ls hl => ?_)
                          refine lv_aload_n hx hb dL_arePicturesSo_206 rfl (lv_at hl 1 rfl) ?_
                          refine lv_iload hx hb dL_arePicturesSo_207 (lv_at hl 5 rfl) ?_
                          refine kPi (va_runV (As := [.int (nI (i))]) (rest := []) ⟨hx, hb, hml, hown, hts⟩ (c_X8_lastMove a v i (by omega) hkd hpi (hk i) (oW_now hP)) (cwV 1 hts gL_arePicturesSo_X8_lastMove rfl rfl rfl (by decide +kernel) ⟨(Nat.le_of_ble_eq_true rfl), (Nat.le_of_ble_eq_true rfl)⟩) (preV hC hS hLo (oW_obj hP) (ci := 7) (q0 := 0) rfl rfl) rfl rfl hl.1 rfl (lv_room (Nat.le_of_ble_eq_true rfl)) dL_arePicturesSo_209 ⟨(Nat.le_of_ble_eq_true rfl), (Nat.le_of_ble_eq_true rfl)⟩) hS (fun locs hS => ?_)
                          refine topE (v' := iI (-1)) (by show iI (if sPi v = 0 ∨ sK v i = 0 then -1 else (sM v i : Int)) = _; rw [if_pos (Or.inl hz9)]) ?_
                          refine lv_istore (lv' := [(6, .int (iI (-1))), (5, .int (iI (-1))), (0, .ref (a 0)), (1, .int (iI (sZ (fun j => (sD v j - sT v j) * (sD v j - sT v j)) 64))), (2, .int (iI (sZ (fun j => ((sT v j - sG v j).natAbs : Int)) 64))), (3, .int (nI (1))), (4, .int (nI (i)))]) hx hb dL_arePicturesSo_212 hl (by decide) rfl (fun ls hl => ?_)
                          refine lv_iload_n hx hb dL_arePicturesSo_214 rfl (lv_at hl 5 rfl) ?_
                          refine lv_if_eq (tgt := 292) hx hb dL_arePicturesSo_215 (by decide) (fun c_66 => ?_) (fun c_66 => ?_)
                          · have f_67 : (1 : Int) = (0 : Int) := (c_eq (nI_toInt (n := 1) (by omega)) rfl).mp c_66
                            exfalso; omega
                          · have f_68 : ¬ (1 : Int) = (0 : Int) := fun z => c_66 ((c_eq (nI_toInt (n := 1) (by omega)) rfl).mpr z)
                            refine lv_aload_n hx hb dL_arePicturesSo_218 rfl (lv_at hl 2 rfl) ?_
                            refine kPi (va_runV (As := []) (rest := []) ⟨hx, hb, hml, hown, hts⟩ (c_X8_pictureCount a v (oW_now hP)) (cwV 0 hts gL_arePicturesSo_X8_pictureCount rfl rfl rfl (by decide +kernel) ⟨(Nat.le_of_ble_eq_true rfl), (Nat.le_of_ble_eq_true rfl)⟩) (preV hC hS hLo (oW_obj hP) (ci := 7) (q0 := 0) rfl rfl) rfl rfl hl.1 rfl (lv_room (Nat.le_of_ble_eq_true rfl)) dL_arePicturesSo_219 ⟨(Nat.le_of_ble_eq_true rfl), (Nat.le_of_ble_eq_true rfl)⟩) hS (fun locs hS => ?_)
                            refine topE (v' := nI (sPi v)) (rfl) ?_
                            refine lv_if_ne (tgt := 240) hx hb dL_arePicturesSo_222 (by decide) (fun c_69 => ?_) (fun c_69 => ?_)
                            · have f_70 : ¬ ((sPi v : Nat) : Int) = (0 : Int) := fun z => c_69 ((c_eq (nI_toInt (n := sPi v) (by omega)) rfl).mpr z)
                              exfalso; omega
                            · have f_71 : ((sPi v : Nat) : Int) = (0 : Int) := (c_eq (nI_toInt (n := sPi v) (by omega)) rfl).mp c_69
                              refine lv_iload hx hb dL_arePicturesSo_225 (lv_at hl 1 rfl) ?_
                              refine lv_iconst (v := iI (-1)) hx hb dL_arePicturesSo_227 (by decide) ?_
                              refine lv_icmp_ne (tgt := 292) hx hb dL_arePicturesSo_228 (by decide) (fun c_72 => ?_) (fun c_72 => ?_)
                              · have f_73 := c_72
                                exact absurd rfl f_73
                              · have f_74 := c_72
                                refine lv_iload hx hb dL_arePicturesSo_231 (lv_at hl 0 rfl) ?_
                                refine lv_iconst (v := iI (-1)) hx hb dL_arePicturesSo_233 (by decide) ?_
                                refine lv_icmp_ne (tgt := 292) hx hb dL_arePicturesSo_234 (by decide) (fun c_75 => ?_) (fun c_75 => ?_)
                                · have f_76 := c_75
                                  exact absurd rfl f_76
                                · have f_77 := c_75
                                  refine lv_goto (tgt := 288) hx hb dL_arePicturesSo_237 (by decide) ?_
                                  refine lv_iconst (v := nI (1)) hx hb dL_arePicturesSo_288 (by decide) ?_
                                  refine lv_goto (tgt := 293) hx hb dL_arePicturesSo_289 (by decide) ?_
                                  refine lv_istore_n (lv' := [(3, .int (nI (1))), (6, .int (iI (-1))), (5, .int (iI (-1))), (0, .ref (a 0)), (1, .int (iI (sZ (fun j => (sD v j - sT v j) * (sD v j - sT v j)) 64))), (2, .int (iI (sZ (fun j => ((sT v j - sG v j).natAbs : Int)) 64))), (4, .int (nI (i)))]) hx hb dL_arePicturesSo_293 rfl hl (by decide) rfl (fun ls hl => ?_)
                                  refine lv_iinc (v := nI (i + 1)) (lv' := [(4, .int (nI (i + 1))), (3, .int (nI (1))), (6, .int (iI (-1))), (5, .int (iI (-1))), (0, .ref (a 0)), (1, .int (iI (sZ (fun j => (sD v j - sT v j) * (sD v j - sT v j)) 64))), (2, .int (iI (sZ (fun j => ((sT v j - sG v j).natAbs : Int)) 64)))]) hx hb dL_arePicturesSo_294 hl (k := 6) rfl (inc_p i 1) (by decide) rfl (fun ls hl => ?_)
                                  refine lv_goto (tgt := 192) hx hb dL_arePicturesSo_297 (by decide) ?_
                                  exact ih_192 (i + 1) (by omega) (by omega) locs ls hS (lv_sub hl [4, 5, 6, 1, 0] ((lvc rfl (lvc rfl (lvc rfl (lvc rfl (lvc (congrArg Value.int (rfl)) rfl)))))))
                    · skip
                      refine lv_aload_n hx hb dL_arePicturesSo_198 rfl (lv_at hl 0 rfl) ?_
                      by_cases hk9 : sK v i = 0
                      · skip
                        refine lv_iload hx hb dL_arePicturesSo_199 (lv_at hl 4 rfl) ?_
                        by_cases hk9b : sK v i = 1
                        · skip
                          refine kPi (va_runV (As := [.int (nI (i))]) (rest := []) ⟨hx, hb, hml, hown, hts⟩ (c_X8_lastKind a v i (by omega) hkd hpi (oW_now hP)) (cwV 1 hts gL_arePicturesSo_X8_lastKind rfl rfl rfl (by decide +kernel) ⟨(Nat.le_of_ble_eq_true rfl), (Nat.le_of_ble_eq_true rfl)⟩) (preV hC hS hLo (oW_obj hP) (ci := 7) (q0 := 0) rfl rfl) rfl rfl hl.1 rfl (lv_room (Nat.le_of_ble_eq_true rfl)) dL_arePicturesSo_201 ⟨(Nat.le_of_ble_eq_true rfl), (Nat.le_of_ble_eq_true rfl)⟩) hS (fun locs hS => ?_)
                          refine topE (v' := nI (0)) (by show iI (if sPi v = 0 then -1 else (sK v i : Int)) = _; rw [if_neg hz9, hk9]; exact (nI_i _).symm) ?_
                          refine lv_istore (lv' := [(5, .int (nI (0))), (0, .ref (a 0)), (1, .int (iI (sZ (fun j => (sD v j - sT v j) * (sD v j - sT v j)) 64))), (2, .int (iI (sZ (fun j => ((sT v j - sG v j).natAbs : Int)) 64))), (3, .int (nI (1))), (4, .int (nI (i)))]) hx hb dL_arePicturesSo_204 hl (by decide) rfl (fun ls hl => ?_)
                          refine lv_aload_n hx hb dL_arePicturesSo_206 rfl (lv_at hl 1 rfl) ?_
                          refine lv_iload hx hb dL_arePicturesSo_207 (lv_at hl 5 rfl) ?_
                          refine kPi (va_runV (As := [.int (nI (i))]) (rest := []) ⟨hx, hb, hml, hown, hts⟩ (c_X8_lastMove a v i (by omega) hkd hpi (hk i) (oW_now hP)) (cwV 1 hts gL_arePicturesSo_X8_lastMove rfl rfl rfl (by decide +kernel) ⟨(Nat.le_of_ble_eq_true rfl), (Nat.le_of_ble_eq_true rfl)⟩) (preV hC hS hLo (oW_obj hP) (ci := 7) (q0 := 0) rfl rfl) rfl rfl hl.1 rfl (lv_room (Nat.le_of_ble_eq_true rfl)) dL_arePicturesSo_209 ⟨(Nat.le_of_ble_eq_true rfl), (Nat.le_of_ble_eq_true rfl)⟩) hS (fun locs hS => ?_)
                          refine topE (v' := iI (-1)) (by show iI (if sPi v = 0 ∨ sK v i = 0 then -1 else (sM v i : Int)) = _; rw [if_pos (Or.inr hk9)]) ?_
                          refine lv_istore (lv' := [(6, .int (iI (-1))), (5, .int (nI (0))), (0, .ref (a 0)), (1, .int (iI (sZ (fun j => (sD v j - sT v j) * (sD v j - sT v j)) 64))), (2, .int (iI (sZ (fun j => ((sT v j - sG v j).natAbs : Int)) 64))), (3, .int (nI (1))), (4, .int (nI (i)))]) hx hb dL_arePicturesSo_212 hl (by decide) rfl (fun ls hl => ?_)
                          refine lv_iload_n hx hb dL_arePicturesSo_214 rfl (lv_at hl 5 rfl) ?_
                          refine lv_if_eq (tgt := 292) hx hb dL_arePicturesSo_215 (by decide) (fun c_78 => ?_) (fun c_78 => ?_)
                          · have f_79 : (1 : Int) = (0 : Int) := (c_eq (nI_toInt (n := 1) (by omega)) rfl).mp c_78
                            exfalso; omega
                          · have f_80 : ¬ (1 : Int) = (0 : Int) := fun z => c_78 ((c_eq (nI_toInt (n := 1) (by omega)) rfl).mpr z)
                            refine lv_aload_n hx hb dL_arePicturesSo_218 rfl (lv_at hl 2 rfl) ?_
                            refine kPi (va_runV (As := []) (rest := []) ⟨hx, hb, hml, hown, hts⟩ (c_X8_pictureCount a v (oW_now hP)) (cwV 0 hts gL_arePicturesSo_X8_pictureCount rfl rfl rfl (by decide +kernel) ⟨(Nat.le_of_ble_eq_true rfl), (Nat.le_of_ble_eq_true rfl)⟩) (preV hC hS hLo (oW_obj hP) (ci := 7) (q0 := 0) rfl rfl) rfl rfl hl.1 rfl (lv_room (Nat.le_of_ble_eq_true rfl)) dL_arePicturesSo_219 ⟨(Nat.le_of_ble_eq_true rfl), (Nat.le_of_ble_eq_true rfl)⟩) hS (fun locs hS => ?_)
                            refine topE (v' := nI (sPi v)) (rfl) ?_
                            refine lv_if_ne (tgt := 240) hx hb dL_arePicturesSo_222 (by decide) (fun c_81 => ?_) (fun c_81 => ?_)
                            · have f_82 : ¬ ((sPi v : Nat) : Int) = (0 : Int) := fun z => c_81 ((c_eq (nI_toInt (n := sPi v) (by omega)) rfl).mpr z)
                              refine lv_iload hx hb dL_arePicturesSo_240 (lv_at hl 1 rfl) ?_
                              refine lv_if_ne (tgt := 254) hx hb dL_arePicturesSo_242 (by decide) (fun c_83 => ?_) (fun c_83 => ?_)
                              · have f_84 : ¬ (0 : Int) = (0 : Int) := fun z => c_83 ((c_eq (nI_toInt (n := 0) (by omega)) rfl).mpr z)
                                exfalso; omega
                              · have f_85 : (0 : Int) = (0 : Int) := (c_eq (nI_toInt (n := 0) (by omega)) rfl).mp c_83
                                refine lv_iload hx hb dL_arePicturesSo_245 (lv_at hl 0 rfl) ?_
                                refine lv_iconst (v := iI (-1)) hx hb dL_arePicturesSo_247 (by decide) ?_
                                refine lv_icmp_ne (tgt := 292) hx hb dL_arePicturesSo_248 (by decide) (fun c_86 => ?_) (fun c_86 => ?_)
                                · have f_87 := c_86
                                  exact absurd rfl f_87
                                · have f_88 := c_86
                                  refine lv_goto (tgt := 288) hx hb dL_arePicturesSo_251 (by decide) ?_
                                  refine lv_iconst (v := nI (1)) hx hb dL_arePicturesSo_288 (by decide) ?_
                                  refine lv_goto (tgt := 293) hx hb dL_arePicturesSo_289 (by decide) ?_
                                  refine lv_istore_n (lv' := [(3, .int (nI (1))), (6, .int (iI (-1))), (5, .int (nI (0))), (0, .ref (a 0)), (1, .int (iI (sZ (fun j => (sD v j - sT v j) * (sD v j - sT v j)) 64))), (2, .int (iI (sZ (fun j => ((sT v j - sG v j).natAbs : Int)) 64))), (4, .int (nI (i)))]) hx hb dL_arePicturesSo_293 rfl hl (by decide) rfl (fun ls hl => ?_)
                                  refine lv_iinc (v := nI (i + 1)) (lv' := [(4, .int (nI (i + 1))), (3, .int (nI (1))), (6, .int (iI (-1))), (5, .int (nI (0))), (0, .ref (a 0)), (1, .int (iI (sZ (fun j => (sD v j - sT v j) * (sD v j - sT v j)) 64))), (2, .int (iI (sZ (fun j => ((sT v j - sG v j).natAbs : Int)) 64)))]) hx hb dL_arePicturesSo_294 hl (k := 6) rfl (inc_p i 1) (by decide) rfl (fun ls hl => ?_)
                                  refine lv_goto (tgt := 192) hx hb dL_arePicturesSo_297 (by decide) ?_
                                  exact ih_192 (i + 1) (by omega) (by omega) locs ls hS (lv_sub hl [4, 5, 6, 1, 0] ((lvc rfl (lvc rfl (lvc rfl (lvc rfl (lvc (congrArg Value.int (rfl)) rfl)))))))
                            · have f_89 : ((sPi v : Nat) : Int) = (0 : Int) := (c_eq (nI_toInt (n := sPi v) (by omega)) rfl).mp c_81
                              exfalso; omega
                        · skip
                          refine kPi (va_runV (As := [.int (nI (i))]) (rest := []) ⟨hx, hb, hml, hown, hts⟩ (c_X8_lastKind a v i (by omega) hkd hpi (oW_now hP)) (cwV 1 hts gL_arePicturesSo_X8_lastKind rfl rfl rfl (by decide +kernel) ⟨(Nat.le_of_ble_eq_true rfl), (Nat.le_of_ble_eq_true rfl)⟩) (preV hC hS hLo (oW_obj hP) (ci := 7) (q0 := 0) rfl rfl) rfl rfl hl.1 rfl (lv_room (Nat.le_of_ble_eq_true rfl)) dL_arePicturesSo_201 ⟨(Nat.le_of_ble_eq_true rfl), (Nat.le_of_ble_eq_true rfl)⟩) hS (fun locs hS => ?_)
                          refine topE (v' := nI (0)) (by show iI (if sPi v = 0 then -1 else (sK v i : Int)) = _; rw [if_neg hz9, hk9]; exact (nI_i _).symm) ?_
                          refine lv_istore (lv' := [(5, .int (nI (0))), (0, .ref (a 0)), (1, .int (iI (sZ (fun j => (sD v j - sT v j) * (sD v j - sT v j)) 64))), (2, .int (iI (sZ (fun j => ((sT v j - sG v j).natAbs : Int)) 64))), (3, .int (nI (1))), (4, .int (nI (i)))]) hx hb dL_arePicturesSo_204 hl (by decide) rfl (fun ls hl => ?_)
                          refine lv_aload_n hx hb dL_arePicturesSo_206 rfl (lv_at hl 1 rfl) ?_
                          refine lv_iload hx hb dL_arePicturesSo_207 (lv_at hl 5 rfl) ?_
                          refine kPi (va_runV (As := [.int (nI (i))]) (rest := []) ⟨hx, hb, hml, hown, hts⟩ (c_X8_lastMove a v i (by omega) hkd hpi (hk i) (oW_now hP)) (cwV 1 hts gL_arePicturesSo_X8_lastMove rfl rfl rfl (by decide +kernel) ⟨(Nat.le_of_ble_eq_true rfl), (Nat.le_of_ble_eq_true rfl)⟩) (preV hC hS hLo (oW_obj hP) (ci := 7) (q0 := 0) rfl rfl) rfl rfl hl.1 rfl (lv_room (Nat.le_of_ble_eq_true rfl)) dL_arePicturesSo_209 ⟨(Nat.le_of_ble_eq_true rfl), (Nat.le_of_ble_eq_true rfl)⟩) hS (fun locs hS => ?_)
                          refine topE (v' := iI (-1)) (by show iI (if sPi v = 0 ∨ sK v i = 0 then -1 else (sM v i : Int)) = _; rw [if_pos (Or.inr hk9)]) ?_
                          refine lv_istore (lv' := [(6, .int (iI (-1))), (5, .int (nI (0))), (0, .ref (a 0)), (1, .int (iI (sZ (fun j => (sD v j - sT v j) * (sD v j - sT v j)) 64))), (2, .int (iI (sZ (fun j => ((sT v j - sG v j).natAbs : Int)) 64))), (3, .int (nI (1))), (4, .int (nI (i)))]) hx hb dL_arePicturesSo_212 hl (by decide) rfl (fun ls hl => ?_)
                          refine lv_iload_n hx hb dL_arePicturesSo_214 rfl (lv_at hl 5 rfl) ?_
                          refine lv_if_eq (tgt := 292) hx hb dL_arePicturesSo_215 (by decide) (fun c_90 => ?_) (fun c_90 => ?_)
                          · have f_91 : (1 : Int) = (0 : Int) := (c_eq (nI_toInt (n := 1) (by omega)) rfl).mp c_90
                            exfalso; omega
                          · have f_92 : ¬ (1 : Int) = (0 : Int) := fun z => c_90 ((c_eq (nI_toInt (n := 1) (by omega)) rfl).mpr z)
                            refine lv_aload_n hx hb dL_arePicturesSo_218 rfl (lv_at hl 2 rfl) ?_
                            refine kPi (va_runV (As := []) (rest := []) ⟨hx, hb, hml, hown, hts⟩ (c_X8_pictureCount a v (oW_now hP)) (cwV 0 hts gL_arePicturesSo_X8_pictureCount rfl rfl rfl (by decide +kernel) ⟨(Nat.le_of_ble_eq_true rfl), (Nat.le_of_ble_eq_true rfl)⟩) (preV hC hS hLo (oW_obj hP) (ci := 7) (q0 := 0) rfl rfl) rfl rfl hl.1 rfl (lv_room (Nat.le_of_ble_eq_true rfl)) dL_arePicturesSo_219 ⟨(Nat.le_of_ble_eq_true rfl), (Nat.le_of_ble_eq_true rfl)⟩) hS (fun locs hS => ?_)
                            refine topE (v' := nI (sPi v)) (rfl) ?_
                            refine lv_if_ne (tgt := 240) hx hb dL_arePicturesSo_222 (by decide) (fun c_93 => ?_) (fun c_93 => ?_)
                            · have f_94 : ¬ ((sPi v : Nat) : Int) = (0 : Int) := fun z => c_93 ((c_eq (nI_toInt (n := sPi v) (by omega)) rfl).mpr z)
                              refine lv_iload hx hb dL_arePicturesSo_240 (lv_at hl 1 rfl) ?_
                              refine lv_if_ne (tgt := 254) hx hb dL_arePicturesSo_242 (by decide) (fun c_95 => ?_) (fun c_95 => ?_)
                              · have f_96 : ¬ (0 : Int) = (0 : Int) := fun z => c_95 ((c_eq (nI_toInt (n := 0) (by omega)) rfl).mpr z)
                                exfalso; omega
                              · have f_97 : (0 : Int) = (0 : Int) := (c_eq (nI_toInt (n := 0) (by omega)) rfl).mp c_95
                                refine lv_iload hx hb dL_arePicturesSo_245 (lv_at hl 0 rfl) ?_
                                refine lv_iconst (v := iI (-1)) hx hb dL_arePicturesSo_247 (by decide) ?_
                                refine lv_icmp_ne (tgt := 292) hx hb dL_arePicturesSo_248 (by decide) (fun c_98 => ?_) (fun c_98 => ?_)
                                · have f_99 := c_98
                                  exact absurd rfl f_99
                                · have f_100 := c_98
                                  refine lv_goto (tgt := 288) hx hb dL_arePicturesSo_251 (by decide) ?_
                                  refine lv_iconst (v := nI (1)) hx hb dL_arePicturesSo_288 (by decide) ?_
                                  refine lv_goto (tgt := 293) hx hb dL_arePicturesSo_289 (by decide) ?_
                                  refine lv_istore_n (lv' := [(3, .int (nI (1))), (6, .int (iI (-1))), (5, .int (nI (0))), (0, .ref (a 0)), (1, .int (iI (sZ (fun j => (sD v j - sT v j) * (sD v j - sT v j)) 64))), (2, .int (iI (sZ (fun j => ((sT v j - sG v j).natAbs : Int)) 64))), (4, .int (nI (i)))]) hx hb dL_arePicturesSo_293 rfl hl (by decide) rfl (fun ls hl => ?_)
                                  refine lv_iinc (v := nI (i + 1)) (lv' := [(4, .int (nI (i + 1))), (3, .int (nI (1))), (6, .int (iI (-1))), (5, .int (nI (0))), (0, .ref (a 0)), (1, .int (iI (sZ (fun j => (sD v j - sT v j) * (sD v j - sT v j)) 64))), (2, .int (iI (sZ (fun j => ((sT v j - sG v j).natAbs : Int)) 64)))]) hx hb dL_arePicturesSo_294 hl (k := 6) rfl (inc_p i 1) (by decide) rfl (fun ls hl => ?_)
                                  refine lv_goto (tgt := 192) hx hb dL_arePicturesSo_297 (by decide) ?_
                                  exact ih_192 (i + 1) (by omega) (by omega) locs ls hS (lv_sub hl [4, 5, 6, 1, 0] ((lvc rfl (lvc rfl (lvc rfl (lvc rfl (lvc (congrArg Value.int (rfl)) rfl)))))))
                            · have f_101 : ((sPi v : Nat) : Int) = (0 : Int) := (c_eq (nI_toInt (n := sPi v) (by omega)) rfl).mp c_93
                              exfalso; omega
                      · skip
                        refine lv_iload hx hb dL_arePicturesSo_199 (lv_at hl 4 rfl) ?_
                        by_cases hk9b : sK v i = 1
                        · skip
                          refine kPi (va_runV (As := [.int (nI (i))]) (rest := []) ⟨hx, hb, hml, hown, hts⟩ (c_X8_lastKind a v i (by omega) hkd hpi (oW_now hP)) (cwV 1 hts gL_arePicturesSo_X8_lastKind rfl rfl rfl (by decide +kernel) ⟨(Nat.le_of_ble_eq_true rfl), (Nat.le_of_ble_eq_true rfl)⟩) (preV hC hS hLo (oW_obj hP) (ci := 7) (q0 := 0) rfl rfl) rfl rfl hl.1 rfl (lv_room (Nat.le_of_ble_eq_true rfl)) dL_arePicturesSo_201 ⟨(Nat.le_of_ble_eq_true rfl), (Nat.le_of_ble_eq_true rfl)⟩) hS (fun locs hS => ?_)
                          refine topE (v' := nI (1)) (by show iI (if sPi v = 0 then -1 else (sK v i : Int)) = _; rw [if_neg hz9, hk9b]; exact (nI_i _).symm) ?_
                          refine lv_istore (lv' := [(5, .int (nI (1))), (0, .ref (a 0)), (1, .int (iI (sZ (fun j => (sD v j - sT v j) * (sD v j - sT v j)) 64))), (2, .int (iI (sZ (fun j => ((sT v j - sG v j).natAbs : Int)) 64))), (3, .int (nI (1))), (4, .int (nI (i)))]) hx hb dL_arePicturesSo_204 hl (by decide) rfl (fun ls hl => ?_)
                          refine lv_aload_n hx hb dL_arePicturesSo_206 rfl (lv_at hl 1 rfl) ?_
                          refine lv_iload hx hb dL_arePicturesSo_207 (lv_at hl 5 rfl) ?_
                          refine kPi (va_runV (As := [.int (nI (i))]) (rest := []) ⟨hx, hb, hml, hown, hts⟩ (c_X8_lastMove a v i (by omega) hkd hpi (hk i) (oW_now hP)) (cwV 1 hts gL_arePicturesSo_X8_lastMove rfl rfl rfl (by decide +kernel) ⟨(Nat.le_of_ble_eq_true rfl), (Nat.le_of_ble_eq_true rfl)⟩) (preV hC hS hLo (oW_obj hP) (ci := 7) (q0 := 0) rfl rfl) rfl rfl hl.1 rfl (lv_room (Nat.le_of_ble_eq_true rfl)) dL_arePicturesSo_209 ⟨(Nat.le_of_ble_eq_true rfl), (Nat.le_of_ble_eq_true rfl)⟩) hS (fun locs hS => ?_)
                          refine topE (v' := nI (12)) (by show iI (if sPi v = 0 ∨ sK v i = 0 then -1 else (sM v i : Int)) = _; rw [if_neg (fun z => z.elim hz9 hk9), (p4 (by omega) i (by omega)).1 hk9b]; exact (nI_i _).symm) ?_
                          refine lv_istore (lv' := [(6, .int (nI (12))), (5, .int (nI (1))), (0, .ref (a 0)), (1, .int (iI (sZ (fun j => (sD v j - sT v j) * (sD v j - sT v j)) 64))), (2, .int (iI (sZ (fun j => ((sT v j - sG v j).natAbs : Int)) 64))), (3, .int (nI (1))), (4, .int (nI (i)))]) hx hb dL_arePicturesSo_212 hl (by decide) rfl (fun ls hl => ?_)
                          refine lv_iload_n hx hb dL_arePicturesSo_214 rfl (lv_at hl 5 rfl) ?_
                          refine lv_if_eq (tgt := 292) hx hb dL_arePicturesSo_215 (by decide) (fun c_102 => ?_) (fun c_102 => ?_)
                          · have f_103 : (1 : Int) = (0 : Int) := (c_eq (nI_toInt (n := 1) (by omega)) rfl).mp c_102
                            exfalso; omega
                          · have f_104 : ¬ (1 : Int) = (0 : Int) := fun z => c_102 ((c_eq (nI_toInt (n := 1) (by omega)) rfl).mpr z)
                            refine lv_aload_n hx hb dL_arePicturesSo_218 rfl (lv_at hl 2 rfl) ?_
                            refine kPi (va_runV (As := []) (rest := []) ⟨hx, hb, hml, hown, hts⟩ (c_X8_pictureCount a v (oW_now hP)) (cwV 0 hts gL_arePicturesSo_X8_pictureCount rfl rfl rfl (by decide +kernel) ⟨(Nat.le_of_ble_eq_true rfl), (Nat.le_of_ble_eq_true rfl)⟩) (preV hC hS hLo (oW_obj hP) (ci := 7) (q0 := 0) rfl rfl) rfl rfl hl.1 rfl (lv_room (Nat.le_of_ble_eq_true rfl)) dL_arePicturesSo_219 ⟨(Nat.le_of_ble_eq_true rfl), (Nat.le_of_ble_eq_true rfl)⟩) hS (fun locs hS => ?_)
                            refine topE (v' := nI (sPi v)) (rfl) ?_
                            refine lv_if_ne (tgt := 240) hx hb dL_arePicturesSo_222 (by decide) (fun c_105 => ?_) (fun c_105 => ?_)
                            · have f_106 : ¬ ((sPi v : Nat) : Int) = (0 : Int) := fun z => c_105 ((c_eq (nI_toInt (n := sPi v) (by omega)) rfl).mpr z)
                              refine lv_iload hx hb dL_arePicturesSo_240 (lv_at hl 1 rfl) ?_
                              refine lv_if_ne (tgt := 254) hx hb dL_arePicturesSo_242 (by decide) (fun c_107 => ?_) (fun c_107 => ?_)
                              · have f_108 : ¬ (1 : Int) = (0 : Int) := fun z => c_107 ((c_eq (nI_toInt (n := 1) (by omega)) rfl).mpr z)
                                refine lv_iload hx hb dL_arePicturesSo_254 (lv_at hl 1 rfl) ?_
                                refine lv_iconst (v := nI (1)) hx hb dL_arePicturesSo_256 (by decide) ?_
                                refine lv_icmp_ne (tgt := 270) hx hb dL_arePicturesSo_257 (by decide) (fun c_109 => ?_) (fun c_109 => ?_)
                                · have f_110 := c_109
                                  exact absurd rfl f_110
                                · have f_111 := c_109
                                  refine lv_iload hx hb dL_arePicturesSo_260 (lv_at hl 0 rfl) ?_
                                  refine lv_bipush (v := nI (12)) hx hb dL_arePicturesSo_262 (by decide) ?_
                                  refine lv_icmp_ne (tgt := 292) hx hb dL_arePicturesSo_264 (by decide) (fun c_112 => ?_) (fun c_112 => ?_)
                                  · have f_113 := c_112
                                    exact absurd rfl f_113
                                  · have f_114 := c_112
                                    refine lv_goto (tgt := 288) hx hb dL_arePicturesSo_267 (by decide) ?_
                                    refine lv_iconst (v := nI (1)) hx hb dL_arePicturesSo_288 (by decide) ?_
                                    refine lv_goto (tgt := 293) hx hb dL_arePicturesSo_289 (by decide) ?_
                                    refine lv_istore_n (lv' := [(3, .int (nI (1))), (6, .int (nI (12))), (5, .int (nI (1))), (0, .ref (a 0)), (1, .int (iI (sZ (fun j => (sD v j - sT v j) * (sD v j - sT v j)) 64))), (2, .int (iI (sZ (fun j => ((sT v j - sG v j).natAbs : Int)) 64))), (4, .int (nI (i)))]) hx hb dL_arePicturesSo_293 rfl hl (by decide) rfl (fun ls hl => ?_)
                                    refine lv_iinc (v := nI (i + 1)) (lv' := [(4, .int (nI (i + 1))), (3, .int (nI (1))), (6, .int (nI (12))), (5, .int (nI (1))), (0, .ref (a 0)), (1, .int (iI (sZ (fun j => (sD v j - sT v j) * (sD v j - sT v j)) 64))), (2, .int (iI (sZ (fun j => ((sT v j - sG v j).natAbs : Int)) 64)))]) hx hb dL_arePicturesSo_294 hl (k := 6) rfl (inc_p i 1) (by decide) rfl (fun ls hl => ?_)
                                    refine lv_goto (tgt := 192) hx hb dL_arePicturesSo_297 (by decide) ?_
                                    exact ih_192 (i + 1) (by omega) (by omega) locs ls hS (lv_sub hl [4, 5, 6, 1, 0] ((lvc rfl (lvc rfl (lvc rfl (lvc rfl (lvc (congrArg Value.int (rfl)) rfl)))))))
                              · have f_115 : (1 : Int) = (0 : Int) := (c_eq (nI_toInt (n := 1) (by omega)) rfl).mp c_107
                                exfalso; omega
                            · have f_116 : ((sPi v : Nat) : Int) = (0 : Int) := (c_eq (nI_toInt (n := sPi v) (by omega)) rfl).mp c_105
                              exfalso; omega
                        · skip
                          refine kPi (va_runV (As := [.int (nI (i))]) (rest := []) ⟨hx, hb, hml, hown, hts⟩ (c_X8_lastKind a v i (by omega) hkd hpi (oW_now hP)) (cwV 1 hts gL_arePicturesSo_X8_lastKind rfl rfl rfl (by decide +kernel) ⟨(Nat.le_of_ble_eq_true rfl), (Nat.le_of_ble_eq_true rfl)⟩) (preV hC hS hLo (oW_obj hP) (ci := 7) (q0 := 0) rfl rfl) rfl rfl hl.1 rfl (lv_room (Nat.le_of_ble_eq_true rfl)) dL_arePicturesSo_201 ⟨(Nat.le_of_ble_eq_true rfl), (Nat.le_of_ble_eq_true rfl)⟩) hS (fun locs hS => ?_)
                          refine topE (v' := nI (2)) (by show iI (if sPi v = 0 then -1 else (sK v i : Int)) = _; rw [if_neg hz9, show sK v i = 2 by have := hk i; omega]; exact (nI_i _).symm) ?_
                          refine lv_istore (lv' := [(5, .int (nI (2))), (0, .ref (a 0)), (1, .int (iI (sZ (fun j => (sD v j - sT v j) * (sD v j - sT v j)) 64))), (2, .int (iI (sZ (fun j => ((sT v j - sG v j).natAbs : Int)) 64))), (3, .int (nI (1))), (4, .int (nI (i)))]) hx hb dL_arePicturesSo_204 hl (by decide) rfl (fun ls hl => ?_)
                          refine lv_aload_n hx hb dL_arePicturesSo_206 rfl (lv_at hl 1 rfl) ?_
                          refine lv_iload hx hb dL_arePicturesSo_207 (lv_at hl 5 rfl) ?_
                          refine kPi (va_runV (As := [.int (nI (i))]) (rest := []) ⟨hx, hb, hml, hown, hts⟩ (c_X8_lastMove a v i (by omega) hkd hpi (hk i) (oW_now hP)) (cwV 1 hts gL_arePicturesSo_X8_lastMove rfl rfl rfl (by decide +kernel) ⟨(Nat.le_of_ble_eq_true rfl), (Nat.le_of_ble_eq_true rfl)⟩) (preV hC hS hLo (oW_obj hP) (ci := 7) (q0 := 0) rfl rfl) rfl rfl hl.1 rfl (lv_room (Nat.le_of_ble_eq_true rfl)) dL_arePicturesSo_209 ⟨(Nat.le_of_ble_eq_true rfl), (Nat.le_of_ble_eq_true rfl)⟩) hS (fun locs hS => ?_)
                          refine topE (v' := nI (sM v i)) (by show iI (if sPi v = 0 ∨ sK v i = 0 then -1 else (sM v i : Int)) = _; rw [if_neg (fun z => z.elim hz9 hk9)]; exact (nI_i _).symm) ?_
                          refine lv_istore (lv' := [(6, .int (nI (sM v i))), (5, .int (nI (2))), (0, .ref (a 0)), (1, .int (iI (sZ (fun j => (sD v j - sT v j) * (sD v j - sT v j)) 64))), (2, .int (iI (sZ (fun j => ((sT v j - sG v j).natAbs : Int)) 64))), (3, .int (nI (1))), (4, .int (nI (i)))]) hx hb dL_arePicturesSo_212 hl (by decide) rfl (fun ls hl => ?_)
                          have hm25 : sM v i < 25 := (p4 (by omega) i (by omega)).2 (by have := hk i; omega)
                          refine lv_iload_n hx hb dL_arePicturesSo_214 rfl (lv_at hl 5 rfl) ?_
                          refine lv_if_eq (tgt := 292) hx hb dL_arePicturesSo_215 (by decide) (fun c_117 => ?_) (fun c_117 => ?_)
                          · have f_118 : (1 : Int) = (0 : Int) := (c_eq (nI_toInt (n := 1) (by omega)) rfl).mp c_117
                            exfalso; omega
                          · have f_119 : ¬ (1 : Int) = (0 : Int) := fun z => c_117 ((c_eq (nI_toInt (n := 1) (by omega)) rfl).mpr z)
                            refine lv_aload_n hx hb dL_arePicturesSo_218 rfl (lv_at hl 2 rfl) ?_
                            refine kPi (va_runV (As := []) (rest := []) ⟨hx, hb, hml, hown, hts⟩ (c_X8_pictureCount a v (oW_now hP)) (cwV 0 hts gL_arePicturesSo_X8_pictureCount rfl rfl rfl (by decide +kernel) ⟨(Nat.le_of_ble_eq_true rfl), (Nat.le_of_ble_eq_true rfl)⟩) (preV hC hS hLo (oW_obj hP) (ci := 7) (q0 := 0) rfl rfl) rfl rfl hl.1 rfl (lv_room (Nat.le_of_ble_eq_true rfl)) dL_arePicturesSo_219 ⟨(Nat.le_of_ble_eq_true rfl), (Nat.le_of_ble_eq_true rfl)⟩) hS (fun locs hS => ?_)
                            refine topE (v' := nI (sPi v)) (rfl) ?_
                            refine lv_if_ne (tgt := 240) hx hb dL_arePicturesSo_222 (by decide) (fun c_120 => ?_) (fun c_120 => ?_)
                            · have f_121 : ¬ ((sPi v : Nat) : Int) = (0 : Int) := fun z => c_120 ((c_eq (nI_toInt (n := sPi v) (by omega)) rfl).mpr z)
                              refine lv_iload hx hb dL_arePicturesSo_240 (lv_at hl 1 rfl) ?_
                              refine lv_if_ne (tgt := 254) hx hb dL_arePicturesSo_242 (by decide) (fun c_122 => ?_) (fun c_122 => ?_)
                              · have f_123 : ¬ (2 : Int) = (0 : Int) := fun z => c_122 ((c_eq (nI_toInt (n := 2) (by omega)) rfl).mpr z)
                                refine lv_iload hx hb dL_arePicturesSo_254 (lv_at hl 1 rfl) ?_
                                refine lv_iconst (v := nI (1)) hx hb dL_arePicturesSo_256 (by decide) ?_
                                refine lv_icmp_ne (tgt := 270) hx hb dL_arePicturesSo_257 (by decide) (fun c_124 => ?_) (fun c_124 => ?_)
                                · have f_125 : ¬ (2 : Int) = (1 : Int) := fun z => c_124 ((c_eq (nI_toInt (n := 2) (by omega)) (nI_toInt (n := 1) (by omega))).mpr z)
                                  refine lv_iload hx hb dL_arePicturesSo_270 (lv_at hl 1 rfl) ?_
                                  refine lv_iconst (v := nI (2)) hx hb dL_arePicturesSo_272 (by decide) ?_
                                  refine lv_icmp_ne (tgt := 292) hx hb dL_arePicturesSo_273 (by decide) (fun c_126 => ?_) (fun c_126 => ?_)
                                  · have f_127 := c_126
                                    exact absurd rfl f_127
                                  · have f_128 := c_126
                                    refine lv_iload hx hb dL_arePicturesSo_276 (lv_at hl 0 rfl) ?_
                                    refine lv_if_lt (tgt := 292) hx hb dL_arePicturesSo_278 (by decide) (fun c_129 => ?_) (fun c_129 => ?_)
                                    · have f_130 : ((sM v i : Nat) : Int) < (0 : Int) := (c_lt (nI_toInt (n := sM v i) (by omega)) rfl).mp c_129
                                      exfalso; omega
                                    · have f_131 : ¬ ((sM v i : Nat) : Int) < (0 : Int) := fun z => c_129 ((c_lt (nI_toInt (n := sM v i) (by omega)) rfl).mpr z)
                                      refine lv_iload hx hb dL_arePicturesSo_281 (lv_at hl 0 rfl) ?_
                                      refine lv_bipush (v := nI (25)) hx hb dL_arePicturesSo_283 (by decide) ?_
                                      refine lv_icmp_ge (tgt := 292) hx hb dL_arePicturesSo_285 (by decide) (fun c_132 => ?_) (fun c_132 => ?_)
                                      · have f_133 : (25 : Int) ≤ ((sM v i : Nat) : Int) := (c_le (nI_toInt (n := 25) (by omega)) (nI_toInt (n := sM v i) (by omega))).mp c_132
                                        exfalso; omega
                                      · have f_134 : ¬ (25 : Int) ≤ ((sM v i : Nat) : Int) := fun z => c_132 ((c_le (nI_toInt (n := 25) (by omega)) (nI_toInt (n := sM v i) (by omega))).mpr z)
                                        refine lv_iconst (v := nI (1)) hx hb dL_arePicturesSo_288 (by decide) ?_
                                        refine lv_goto (tgt := 293) hx hb dL_arePicturesSo_289 (by decide) ?_
                                        refine lv_istore_n (lv' := [(3, .int (nI (1))), (6, .int (nI (sM v i))), (5, .int (nI (2))), (0, .ref (a 0)), (1, .int (iI (sZ (fun j => (sD v j - sT v j) * (sD v j - sT v j)) 64))), (2, .int (iI (sZ (fun j => ((sT v j - sG v j).natAbs : Int)) 64))), (4, .int (nI (i)))]) hx hb dL_arePicturesSo_293 rfl hl (by decide) rfl (fun ls hl => ?_)
                                        refine lv_iinc (v := nI (i + 1)) (lv' := [(4, .int (nI (i + 1))), (3, .int (nI (1))), (6, .int (nI (sM v i))), (5, .int (nI (2))), (0, .ref (a 0)), (1, .int (iI (sZ (fun j => (sD v j - sT v j) * (sD v j - sT v j)) 64))), (2, .int (iI (sZ (fun j => ((sT v j - sG v j).natAbs : Int)) 64)))]) hx hb dL_arePicturesSo_294 hl (k := 6) rfl (inc_p i 1) (by decide) rfl (fun ls hl => ?_)
                                        refine lv_goto (tgt := 192) hx hb dL_arePicturesSo_297 (by decide) ?_
                                        exact ih_192 (i + 1) (by omega) (by omega) locs ls hS (lv_sub hl [4, 5, 6, 1, 0] ((lvc rfl (lvc rfl (lvc rfl (lvc rfl (lvc (congrArg Value.int (rfl)) rfl)))))))
                                · have f_135 : (2 : Int) = (1 : Int) := (c_eq (nI_toInt (n := 2) (by omega)) (nI_toInt (n := 1) (by omega))).mp c_124
                                  exfalso; omega
                              · have f_136 : (2 : Int) = (0 : Int) := (c_eq (nI_toInt (n := 2) (by omega)) rfl).mp c_122
                                exfalso; omega
                            · have f_137 : ((sPi v : Nat) : Int) = (0 : Int) := (c_eq (nI_toInt (n := sPi v) (by omega)) rfl).mp c_120
                              exfalso; omega
              exact L_192 (4 + 1) 0 (Nat.lt_succ_self _) (by omega) locs ls hS (lv_sub hl [1, 2, 3, 4, 0] (lvc rfl (lvc rfl (lvc rfl (lvc rfl (lvc rfl rfl))))))
            · have f_138 : ¬ (64 : Int) ≤ ((i : Nat) : Int) := fun z => c_10 ((c_le (nI_toInt (n := 64) (by omega)) (nI_toInt (n := i) (by omega))).mpr z)
              have hdi : 0 ≤ sD v i ∧ sD v i ≤ 15 := hd i
              have hti : 0 ≤ sT v i ∧ sT v i ≤ 15 := ht i
              have hgi : 0 ≤ sG v i ∧ sG v i ≤ 15 := hg i
              refine lv_aload_n hx hb dL_arePicturesSo_59 rfl (lv_at hl 0 rfl) ?_
              refine lv_iload hx hb dL_arePicturesSo_60 (lv_at hl 4 rfl) ?_
              refine kPi (va_runV (As := [.int (nI (i))]) (rest := []) ⟨hx, hb, hml, hown, hts⟩ (c_X8_drawnAt a v i (by omega) (oW_now hP)) (cwV 1 hts gL_arePicturesSo_X8_drawnAt rfl rfl rfl (by decide +kernel) ⟨(Nat.le_of_ble_eq_true rfl), (Nat.le_of_ble_eq_true rfl)⟩) (preV hC hS hLo (oW_obj hP) (ci := 7) (q0 := 0) rfl rfl) rfl rfl hl.1 rfl (lv_room (Nat.le_of_ble_eq_true rfl)) dL_arePicturesSo_62 ⟨(Nat.le_of_ble_eq_true rfl), (Nat.le_of_ble_eq_true rfl)⟩) hS (fun locs hS => ?_)
              refine topE (v' := iI (sD v i)) (rfl) ?_
              refine lv_aload_n hx hb dL_arePicturesSo_65 rfl (lv_at hl 0 rfl) ?_
              refine lv_iload hx hb dL_arePicturesSo_66 (lv_at hl 4 rfl) ?_
              refine kPi (va_runV (As := [.int (nI (i))]) (rest := [.int (iI (sD v i))]) ⟨hx, hb, hml, hown, hts⟩ (c_X8_sentAt a v i (by omega) (oW_now hP)) (cwV 1 hts gL_arePicturesSo_X8_sentAt rfl rfl rfl (by decide +kernel) ⟨(Nat.le_of_ble_eq_true rfl), (Nat.le_of_ble_eq_true rfl)⟩) (preV hC hS hLo (oW_obj hP) (ci := 7) (q0 := 0) rfl rfl) rfl rfl hl.1 rfl (lv_room (Nat.le_of_ble_eq_true rfl)) dL_arePicturesSo_68 ⟨(Nat.le_of_ble_eq_true rfl), (Nat.le_of_ble_eq_true rfl)⟩) hS (fun locs hS => ?_)
              refine topE (v' := iI (sT v i)) (rfl) ?_
              refine gSub (z := iI ((sD v i) - (sT v i))) hx hb dL_arePicturesSo_71 (z_sub rfl rfl) ?_
              refine lv_istore (lv' := [(5, .int (iI ((sD v i) - (sT v i)))), (0, .ref (a 0)), (1, .int (iI (sZ (fun j => (sD v j - sT v j) * (sD v j - sT v j)) i))), (2, .int (iI (sZ (fun j => ((sT v j - sG v j).natAbs : Int)) i))), (3, .int (nI (1))), (4, .int (nI (i)))]) hx hb dL_arePicturesSo_72 hl (by decide) rfl (fun ls hl => ?_)
              refine lv_aload_n hx hb dL_arePicturesSo_74 rfl (lv_at hl 1 rfl) ?_
              refine lv_iload hx hb dL_arePicturesSo_75 (lv_at hl 5 rfl) ?_
              refine kPi (va_runV (As := [.int (nI (i))]) (rest := []) ⟨hx, hb, hml, hown, hts⟩ (c_X8_sentAt a v i (by omega) (oW_now hP)) (cwV 1 hts gL_arePicturesSo_X8_sentAt rfl rfl rfl (by decide +kernel) ⟨(Nat.le_of_ble_eq_true rfl), (Nat.le_of_ble_eq_true rfl)⟩) (preV hC hS hLo (oW_obj hP) (ci := 7) (q0 := 0) rfl rfl) rfl rfl hl.1 rfl (lv_room (Nat.le_of_ble_eq_true rfl)) dL_arePicturesSo_77 ⟨(Nat.le_of_ble_eq_true rfl), (Nat.le_of_ble_eq_true rfl)⟩) hS (fun locs hS => ?_)
              refine topE (v' := iI (sT v i)) (rfl) ?_
              refine lv_aload_n hx hb dL_arePicturesSo_80 rfl (lv_at hl 1 rfl) ?_
              refine lv_iload hx hb dL_arePicturesSo_81 (lv_at hl 5 rfl) ?_
              refine kPi (va_runV (As := [.int (nI (i))]) (rest := [.int (iI (sT v i))]) ⟨hx, hb, hml, hown, hts⟩ (c_X8_receivedAt a v i (by omega) (oW_now hP)) (cwV 1 hts gL_arePicturesSo_X8_receivedAt rfl rfl rfl (by decide +kernel) ⟨(Nat.le_of_ble_eq_true rfl), (Nat.le_of_ble_eq_true rfl)⟩) (preV hC hS hLo (oW_obj hP) (ci := 7) (q0 := 0) rfl rfl) rfl rfl hl.1 rfl (lv_room (Nat.le_of_ble_eq_true rfl)) dL_arePicturesSo_83 ⟨(Nat.le_of_ble_eq_true rfl), (Nat.le_of_ble_eq_true rfl)⟩) hS (fun locs hS => ?_)
              refine topE (v' := iI (sG v i)) (rfl) ?_
              refine gSub (z := iI ((sT v i) - (sG v i))) hx hb dL_arePicturesSo_86 (z_sub rfl rfl) ?_
              refine lv_istore (lv' := [(6, .int (iI ((sT v i) - (sG v i)))), (5, .int (iI ((sD v i) - (sT v i)))), (0, .ref (a 0)), (1, .int (iI (sZ (fun j => (sD v j - sT v j) * (sD v j - sT v j)) i))), (2, .int (iI (sZ (fun j => ((sT v j - sG v j).natAbs : Int)) i))), (3, .int (nI (1))), (4, .int (nI (i)))]) hx hb dL_arePicturesSo_87 hl (by decide) rfl (fun ls hl => ?_)
              refine lv_iload_n hx hb dL_arePicturesSo_89 rfl (lv_at hl 3 rfl) ?_
              refine lv_iload hx hb dL_arePicturesSo_90 (lv_at hl 1 rfl) ?_
              refine lv_iload hx hb dL_arePicturesSo_92 (lv_at hl 1 rfl) ?_
              refine gMul (z := iI (((sD v i) - (sT v i)) * ((sD v i) - (sT v i)))) hx hb dL_arePicturesSo_94 (z_mul rfl rfl) ?_
              refine gAdd (z := iI ((sZ (fun j => (sD v j - sT v j) * (sD v j - sT v j)) i) + (((sD v i) - (sT v i)) * ((sD v i) - (sT v i))))) hx hb dL_arePicturesSo_95 (z_add rfl rfl) ?_
              refine lv_istore_n (lv' := [(1, .int (iI ((sZ (fun j => (sD v j - sT v j) * (sD v j - sT v j)) i) + (((sD v i) - (sT v i)) * ((sD v i) - (sT v i)))))), (6, .int (iI ((sT v i) - (sG v i)))), (5, .int (iI ((sD v i) - (sT v i)))), (0, .ref (a 0)), (2, .int (iI (sZ (fun j => ((sT v j - sG v j).natAbs : Int)) i))), (3, .int (nI (1))), (4, .int (nI (i)))]) hx hb dL_arePicturesSo_96 rfl hl (by decide) rfl (fun ls hl => ?_)
              refine lv_iload_n hx hb dL_arePicturesSo_97 rfl (lv_at hl 4 rfl) ?_
              have J_111 : ∀ (locs : List Loc) (ls : Array Slot), va_S noF s.heap s.heap locs → lv_has ls 7 [(0, .ref (a 0)), (1, .int (iI ((sZ (fun j => (sD v j - sT v j) * (sD v j - sT v j)) i) + (((sD v i) - (sT v i)) * ((sD v i) - (sT v i)))))), (2, .int (iI (sZ (fun j => ((sT v j - sG v j).natAbs : Int)) i))), (3, .int (nI (1))), (4, .int (nI (i))), (5, .int (iI ((sD v i) - (sT v i)))), (6, .int (iI ((sT v i) - (sG v i))))] → W pg l ev ({ frames := 2, cells := 0, slots := 0, locals := 44 } : Room) s m (([.ref (a 0)] : List Value).toArray) below meth c s.heap locs 0 0 (MQ below (qPi (nI (1)) s.heap) (([.ref (a 0)] : List Value).toArray) s 0 0 noF) (F0 m 111 ls [.int (iI (((sT v i - sG v i).natAbs : Int))), .int (iI (sZ (fun j => ((sT v j - sG v j).natAbs : Int)) i))]) := by
                intro locs ls hS hl
                refine gAdd (z := iI ((sZ (fun j => ((sT v j - sG v j).natAbs : Int)) i) + (((sT v i - sG v i).natAbs : Int)))) hx hb dL_arePicturesSo_111 (z_add rfl rfl) ?_
                refine lv_istore_n (lv' := [(2, .int (iI ((sZ (fun j => ((sT v j - sG v j).natAbs : Int)) i) + (((sT v i - sG v i).natAbs : Int))))), (0, .ref (a 0)), (1, .int (iI ((sZ (fun j => (sD v j - sT v j) * (sD v j - sT v j)) i) + (((sD v i) - (sT v i)) * ((sD v i) - (sT v i)))))), (3, .int (nI (1))), (4, .int (nI (i))), (5, .int (iI ((sD v i) - (sT v i)))), (6, .int (iI ((sT v i) - (sG v i))))]) hx hb dL_arePicturesSo_112 rfl hl (by decide) rfl (fun ls hl => ?_)
                refine lv_iload_n hx hb dL_arePicturesSo_113 rfl (lv_at hl 3 rfl) ?_
                refine lv_if_eq (tgt := 181) hx hb dL_arePicturesSo_114 (by decide) (fun c_139 => ?_) (fun c_139 => ?_)
                · have f_140 : (1 : Int) = (0 : Int) := (c_eq (nI_toInt (n := 1) (by omega)) rfl).mp c_139
                  exfalso; omega
                · have f_141 : ¬ (1 : Int) = (0 : Int) := fun z => c_139 ((c_eq (nI_toInt (n := 1) (by omega)) rfl).mpr z)
                  refine lv_aload_n hx hb dL_arePicturesSo_117 rfl (lv_at hl 1 rfl) ?_
                  refine lv_iload hx hb dL_arePicturesSo_118 (lv_at hl 4 rfl) ?_
                  refine kPi (va_runV (As := [.int (nI (i))]) (rest := []) ⟨hx, hb, hml, hown, hts⟩ (c_X8_drawnAt a v i (by omega) (oW_now hP)) (cwV 1 hts gL_arePicturesSo_X8_drawnAt rfl rfl rfl (by decide +kernel) ⟨(Nat.le_of_ble_eq_true rfl), (Nat.le_of_ble_eq_true rfl)⟩) (preV hC hS hLo (oW_obj hP) (ci := 7) (q0 := 0) rfl rfl) rfl rfl hl.1 rfl (lv_room (Nat.le_of_ble_eq_true rfl)) dL_arePicturesSo_120 ⟨(Nat.le_of_ble_eq_true rfl), (Nat.le_of_ble_eq_true rfl)⟩) hS (fun locs hS => ?_)
                  refine topE (v' := iI (sD v i)) (rfl) ?_
                  refine lv_if_lt (tgt := 181) hx hb dL_arePicturesSo_123 (by decide) (fun c_142 => ?_) (fun c_142 => ?_)
                  · have f_143 : (sD v i) < (0 : Int) := (c_lt (iI_toInt (by omega) (by omega)) rfl).mp c_142
                    exfalso; omega
                  · have f_144 : ¬ (sD v i) < (0 : Int) := fun z => c_142 ((c_lt (iI_toInt (by omega) (by omega)) rfl).mpr z)
                    refine lv_aload_n hx hb dL_arePicturesSo_126 rfl (lv_at hl 1 rfl) ?_
                    refine lv_iload hx hb dL_arePicturesSo_127 (lv_at hl 4 rfl) ?_
                    refine kPi (va_runV (As := [.int (nI (i))]) (rest := []) ⟨hx, hb, hml, hown, hts⟩ (c_X8_drawnAt a v i (by omega) (oW_now hP)) (cwV 1 hts gL_arePicturesSo_X8_drawnAt rfl rfl rfl (by decide +kernel) ⟨(Nat.le_of_ble_eq_true rfl), (Nat.le_of_ble_eq_true rfl)⟩) (preV hC hS hLo (oW_obj hP) (ci := 7) (q0 := 0) rfl rfl) rfl rfl hl.1 rfl (lv_room (Nat.le_of_ble_eq_true rfl)) dL_arePicturesSo_129 ⟨(Nat.le_of_ble_eq_true rfl), (Nat.le_of_ble_eq_true rfl)⟩) hS (fun locs hS => ?_)
                    refine topE (v' := iI (sD v i)) (rfl) ?_
                    refine lv_bipush (v := nI (16)) hx hb dL_arePicturesSo_132 (by decide) ?_
                    refine lv_icmp_ge (tgt := 181) hx hb dL_arePicturesSo_134 (by decide) (fun c_145 => ?_) (fun c_145 => ?_)
                    · have f_146 : (16 : Int) ≤ (sD v i) := (c_le (nI_toInt (n := 16) (by omega)) (iI_toInt (by omega) (by omega))).mp c_145
                      exfalso; omega
                    · have f_147 : ¬ (16 : Int) ≤ (sD v i) := fun z => c_145 ((c_le (nI_toInt (n := 16) (by omega)) (iI_toInt (by omega) (by omega))).mpr z)
                      refine lv_aload_n hx hb dL_arePicturesSo_137 rfl (lv_at hl 1 rfl) ?_
                      refine lv_iload hx hb dL_arePicturesSo_138 (lv_at hl 4 rfl) ?_
                      refine kPi (va_runV (As := [.int (nI (i))]) (rest := []) ⟨hx, hb, hml, hown, hts⟩ (c_X8_sentAt a v i (by omega) (oW_now hP)) (cwV 1 hts gL_arePicturesSo_X8_sentAt rfl rfl rfl (by decide +kernel) ⟨(Nat.le_of_ble_eq_true rfl), (Nat.le_of_ble_eq_true rfl)⟩) (preV hC hS hLo (oW_obj hP) (ci := 7) (q0 := 0) rfl rfl) rfl rfl hl.1 rfl (lv_room (Nat.le_of_ble_eq_true rfl)) dL_arePicturesSo_140 ⟨(Nat.le_of_ble_eq_true rfl), (Nat.le_of_ble_eq_true rfl)⟩) hS (fun locs hS => ?_)
                      refine topE (v' := iI (sT v i)) (rfl) ?_
                      refine lv_if_lt (tgt := 181) hx hb dL_arePicturesSo_143 (by decide) (fun c_148 => ?_) (fun c_148 => ?_)
                      · have f_149 : (sT v i) < (0 : Int) := (c_lt (iI_toInt (by omega) (by omega)) rfl).mp c_148
                        exfalso; omega
                      · have f_150 : ¬ (sT v i) < (0 : Int) := fun z => c_148 ((c_lt (iI_toInt (by omega) (by omega)) rfl).mpr z)
                        refine lv_aload_n hx hb dL_arePicturesSo_146 rfl (lv_at hl 1 rfl) ?_
                        refine lv_iload hx hb dL_arePicturesSo_147 (lv_at hl 4 rfl) ?_
                        refine kPi (va_runV (As := [.int (nI (i))]) (rest := []) ⟨hx, hb, hml, hown, hts⟩ (c_X8_sentAt a v i (by omega) (oW_now hP)) (cwV 1 hts gL_arePicturesSo_X8_sentAt rfl rfl rfl (by decide +kernel) ⟨(Nat.le_of_ble_eq_true rfl), (Nat.le_of_ble_eq_true rfl)⟩) (preV hC hS hLo (oW_obj hP) (ci := 7) (q0 := 0) rfl rfl) rfl rfl hl.1 rfl (lv_room (Nat.le_of_ble_eq_true rfl)) dL_arePicturesSo_149 ⟨(Nat.le_of_ble_eq_true rfl), (Nat.le_of_ble_eq_true rfl)⟩) hS (fun locs hS => ?_)
                        refine topE (v' := iI (sT v i)) (rfl) ?_
                        refine lv_bipush (v := nI (16)) hx hb dL_arePicturesSo_152 (by decide) ?_
                        refine lv_icmp_ge (tgt := 181) hx hb dL_arePicturesSo_154 (by decide) (fun c_151 => ?_) (fun c_151 => ?_)
                        · have f_152 : (16 : Int) ≤ (sT v i) := (c_le (nI_toInt (n := 16) (by omega)) (iI_toInt (by omega) (by omega))).mp c_151
                          exfalso; omega
                        · have f_153 : ¬ (16 : Int) ≤ (sT v i) := fun z => c_151 ((c_le (nI_toInt (n := 16) (by omega)) (iI_toInt (by omega) (by omega))).mpr z)
                          refine lv_aload_n hx hb dL_arePicturesSo_157 rfl (lv_at hl 1 rfl) ?_
                          refine lv_iload hx hb dL_arePicturesSo_158 (lv_at hl 4 rfl) ?_
                          refine kPi (va_runV (As := [.int (nI (i))]) (rest := []) ⟨hx, hb, hml, hown, hts⟩ (c_X8_receivedAt a v i (by omega) (oW_now hP)) (cwV 1 hts gL_arePicturesSo_X8_receivedAt rfl rfl rfl (by decide +kernel) ⟨(Nat.le_of_ble_eq_true rfl), (Nat.le_of_ble_eq_true rfl)⟩) (preV hC hS hLo (oW_obj hP) (ci := 7) (q0 := 0) rfl rfl) rfl rfl hl.1 rfl (lv_room (Nat.le_of_ble_eq_true rfl)) dL_arePicturesSo_160 ⟨(Nat.le_of_ble_eq_true rfl), (Nat.le_of_ble_eq_true rfl)⟩) hS (fun locs hS => ?_)
                          refine topE (v' := iI (sG v i)) (rfl) ?_
                          refine lv_if_lt (tgt := 181) hx hb dL_arePicturesSo_163 (by decide) (fun c_154 => ?_) (fun c_154 => ?_)
                          · have f_155 : (sG v i) < (0 : Int) := (c_lt (iI_toInt (by omega) (by omega)) rfl).mp c_154
                            exfalso; omega
                          · have f_156 : ¬ (sG v i) < (0 : Int) := fun z => c_154 ((c_lt (iI_toInt (by omega) (by omega)) rfl).mpr z)
                            refine lv_aload_n hx hb dL_arePicturesSo_166 rfl (lv_at hl 1 rfl) ?_
                            refine lv_iload hx hb dL_arePicturesSo_167 (lv_at hl 4 rfl) ?_
                            refine kPi (va_runV (As := [.int (nI (i))]) (rest := []) ⟨hx, hb, hml, hown, hts⟩ (c_X8_receivedAt a v i (by omega) (oW_now hP)) (cwV 1 hts gL_arePicturesSo_X8_receivedAt rfl rfl rfl (by decide +kernel) ⟨(Nat.le_of_ble_eq_true rfl), (Nat.le_of_ble_eq_true rfl)⟩) (preV hC hS hLo (oW_obj hP) (ci := 7) (q0 := 0) rfl rfl) rfl rfl hl.1 rfl (lv_room (Nat.le_of_ble_eq_true rfl)) dL_arePicturesSo_169 ⟨(Nat.le_of_ble_eq_true rfl), (Nat.le_of_ble_eq_true rfl)⟩) hS (fun locs hS => ?_)
                            refine topE (v' := iI (sG v i)) (rfl) ?_
                            refine lv_bipush (v := nI (16)) hx hb dL_arePicturesSo_172 (by decide) ?_
                            refine lv_icmp_ge (tgt := 181) hx hb dL_arePicturesSo_174 (by decide) (fun c_157 => ?_) (fun c_157 => ?_)
                            · have f_158 : (16 : Int) ≤ (sG v i) := (c_le (nI_toInt (n := 16) (by omega)) (iI_toInt (by omega) (by omega))).mp c_157
                              exfalso; omega
                            · have f_159 : ¬ (16 : Int) ≤ (sG v i) := fun z => c_157 ((c_le (nI_toInt (n := 16) (by omega)) (iI_toInt (by omega) (by omega))).mpr z)
                              refine lv_iconst (v := nI (1)) hx hb dL_arePicturesSo_177 (by decide) ?_
                              refine lv_goto (tgt := 182) hx hb dL_arePicturesSo_178 (by decide) ?_
                              refine lv_istore_n (lv' := [(3, .int (nI (1))), (2, .int (iI ((sZ (fun j => ((sT v j - sG v j).natAbs : Int)) i) + (((sT v i - sG v i).natAbs : Int))))), (0, .ref (a 0)), (1, .int (iI ((sZ (fun j => (sD v j - sT v j) * (sD v j - sT v j)) i) + (((sD v i) - (sT v i)) * ((sD v i) - (sT v i)))))), (4, .int (nI (i))), (5, .int (iI ((sD v i) - (sT v i)))), (6, .int (iI ((sT v i) - (sG v i))))]) hx hb dL_arePicturesSo_182 rfl hl (by decide) rfl (fun ls hl => ?_)
                              refine lv_iinc (v := nI (i + 1)) (lv' := [(4, .int (nI (i + 1))), (3, .int (nI (1))), (2, .int (iI ((sZ (fun j => ((sT v j - sG v j).natAbs : Int)) i) + (((sT v i - sG v i).natAbs : Int))))), (0, .ref (a 0)), (1, .int (iI ((sZ (fun j => (sD v j - sT v j) * (sD v j - sT v j)) i) + (((sD v i) - (sT v i)) * ((sD v i) - (sT v i)))))), (5, .int (iI ((sD v i) - (sT v i)))), (6, .int (iI ((sT v i) - (sG v i))))]) hx hb dL_arePicturesSo_183 hl (k := 4) rfl (inc_p i 1) (by decide) rfl (fun ls hl => ?_)
                              refine lv_goto (tgt := 52) hx hb dL_arePicturesSo_186 (by decide) ?_
                              exact ih_52 (i + 1) (by omega) (by omega) locs ls hS (lv_sub hl [3, 4, 2, 1, 0] ((lvc rfl (lvc (congrArg Value.int (rfl)) (lvc (congrArg Value.int (rfl)) (lvc rfl (lvc (congrArg Value.int (rfl)) rfl)))))))
              refine lv_iload hx hb dL_arePicturesSo_98 (lv_at hl 1 rfl) ?_
              refine lv_if_ge (tgt := 109) hx hb dL_arePicturesSo_100 (by decide) (fun c_160 => ?_) (fun c_160 => ?_)
              · have f_161 : (0 : Int) ≤ ((sT v i) - (sG v i)) := (c_le rfl (iI_toInt (by omega) (by omega))).mp c_160
                refine lv_iload hx hb dL_arePicturesSo_109 (lv_at hl 1 rfl) ?_
                refine topE (v' := iI (((sT v i - sG v i).natAbs : Int))) (congrArg iI (by omega)) ?_
                exact J_111 locs ls hS (lv_sub hl [3, 0, 4, 5, 6, 2, 1] (rfl))
              · have f_162 : ¬ (0 : Int) ≤ ((sT v i) - (sG v i)) := fun z => c_160 ((c_le rfl (iI_toInt (by omega) (by omega))).mpr z)
                refine lv_iload hx hb dL_arePicturesSo_103 (lv_at hl 1 rfl) ?_
                refine gNeg (z := iI (-((sT v i) - (sG v i)))) hx hb dL_arePicturesSo_105 (iI_ng _) ?_
                refine lv_goto (tgt := 111) hx hb dL_arePicturesSo_106 (by decide) ?_
                refine topE (v' := iI (((sT v i - sG v i).natAbs : Int))) (congrArg iI (by omega)) ?_
                exact J_111 locs ls hS (lv_sub hl [3, 0, 4, 5, 6, 2, 1] (rfl))
        exact L_52 (64 + 1) 0 (Nat.lt_succ_self _) (by omega) locs ls hS (lv_sub hl [4, 3, 2, 1, 0] (lvc rfl (lvc (congrArg Value.int (rfl)) (lvc (congrArg Value.int (rfl)) (lvc rfl (lvc rfl rfl))))))
