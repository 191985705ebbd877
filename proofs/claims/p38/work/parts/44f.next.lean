set_option maxHeartbeats 4000000 in
set_option maxRecDepth 100000 in
theorem c_L_next_n0 {l : Launch} {G : GT} {H0 : Heap} (a : Nat → Nat) (v : SVT) (j : JT) (oa : Nat) (of : Nat → Int32) (hv : OKS v) (hpc : PIC v) (hpi : sPi v ≤ 900) (hj : OKJ j) (hkey : ¬ sPi v % sKd v = 0) (hfl : l.stackTraces = false) (hP0 : PP G (oW G a v j ++ ouW G oa of) H0) (hB0 : va_D (lo G) (oW G a v j ++ ouW G oa of)) : Met l yL_isNextSo wsL_isNextSo ({ frames := 9, cells := 1, slots := 6, locals := 168 } : Room) (pcX G [.ref (a 0), .int (nI (0)), .ref oa] H0) (qMi G (fun (r : Int32) (u : JT × (Nat → Int32)) => r = nI 1 ∧ OKJ u.1 ∧ jH u.1 = rbH (jH j) v) (fun (u : JT × (Nat → Int32)) => oW G a v u.1 ++ ouW G oa u.2) (oW G a v j ++ ouW G oa of) H0) 1 6 (va_A (oW G a v j ++ ouW G oa of) H0.size) := by
  refine enterNX (cc := cL_isNextSo) (maxL := 12) (ret := some .boolean) (own := RL) (lv := [(0, .ref (a 0)), (1, .int (nI (0))), (2, .ref oa)]) (by decide) rfl rfl rfl (Nat.le_of_ble_eq_true rfl) ?_
  intro pg ev s m below meth c hx hb hr hts hown hlocks hml hnm hH hCX ls hl
  subst hH
  have hC := hCX.1
  have hLo := va_freeB hB0 hC.2.2.2.1
  have hD := hB0.self (sz := s.heap.size)
  have hS : va_S (va_A (oW G a v j ++ ouW G oa of) s.heap.size) s.heap s.heap [] := va_S.rf
  unfold qMi
  generalize hAe : va_A (oW G a v j ++ ouW G oa of) s.heap.size = A at hD hLo hS ⊢
  have hA : ∀ q, s.heap.size ≤ q → A q := fun q h => by rw [← hAe]; exact Or.inr h
  generalize ([] : List Loc) = locs at hS ⊢
  have hP := hP0
  have hv0 := hv
  have hpc0 := hpc
  obtain ⟨hd, ht, hg, hk, hbu, hkd⟩ := hv
  obtain ⟨p1, p2, p3, p4, p5⟩ := hpc
  have hbi := BITS_in v
  have hcm := COM_in (sD v) (sT v) (sBu v)
  have hco : COAR v = (COM (sD v) (sT v) (sBu v) : Int) := if_neg hkey
  have hbk : BITS v = ABM (sD v) (sT v) (COM (sD v) (sT v) (sBu v)) 4 := if_neg hkey
  have hzd : 0 ≤ sZ (fun j => ((sT v j - sG v j).natAbs : Int)) 64 ∧ sZ (fun j => ((sT v j - sG v j).natAbs : Int)) 64 ≤ 15 * ((64 : Nat) : Int) := sZ_in (fun k => by have h1 : 0 ≤ sT v k ∧ sT v k ≤ 15 := ht k; have h2 : 0 ≤ sG v k ∧ sG v k ≤ 15 := hg k; show 0 ≤ ((sT v k - sG v k).natAbs : Int) ∧ ((sT v k - sG v k).natAbs : Int) ≤ 15; omega) 64
  refine lv_aload_n hx hb dL_isNextSo_0 rfl (lv_at hl 0 rfl) ?_
  refine kPreI (va_runV (As := []) (rest := []) ⟨hx, hb, hml, hown, hts⟩ (o_coarsenessNext a v j hv0 (by omega) hj (PP_l hP) ((pre_D hD).weaken (fun _ _ _ h => hLo _ h))) (cwV 0 hts gL_isNextSo_X8_coarsenessNext rfl rfl rfl (by decide +kernel) ⟨(Nat.le_of_ble_eq_true rfl), (Nat.le_of_ble_eq_true rfl)⟩) (preV hC hS hLo (oW_obj (PP_l hP)) (ci := 7) (q0 := 0) rfl rfl) rfl rfl hl.1 rfl (lv_room (Nat.le_of_ble_eq_true rfl)) dL_isNextSo_1 ⟨(Nat.le_of_ble_eq_true rfl), (Nat.le_of_ble_eq_true rfl)⟩) hP hD hS hA (fun _ => oW_fst) (fun r_3 u_1 H locs q_2 hP hD hS => ?_)
  have hP : PP G (oW G a v u_1 ++ ouW G oa of) H := hP
  have hD : va_D A (oW G a v u_1 ++ ouW G oa of) := hD
  have hjj := q_2.2.1
  have hje := q_2.2.2
  refine topE (v' := nI (COM (sD v) (sT v) (sBu v))) (q_2.1.trans (by rw [hco]; exact (nI_i _).symm)) ?_
  refine lv_istore_n (lv' := [(3, .int (nI (COM (sD v) (sT v) (sBu v)))), (0, .ref (a 0)), (1, .int (nI (0))), (2, .ref oa)]) hx hb dL_isNextSo_4 rfl hl (by decide) rfl (fun ls hl => ?_)
  refine lv_aload_n hx hb dL_isNextSo_5 rfl (lv_at hl 1 rfl) ?_
  refine kPreI (va_runV (As := []) (rest := []) ⟨hx, hb, hml, hown, hts⟩ (o_bitsNext a v u_1 hv0 (by omega) hjj (PP_l hP) ((pre_D hD).weaken (fun _ _ _ h => hLo _ h))) (cwV 0 hts gL_isNextSo_X8_bitsNext rfl rfl rfl (by decide +kernel) ⟨(Nat.le_of_ble_eq_true rfl), (Nat.le_of_ble_eq_true rfl)⟩) (preV hC hS hLo (oW_obj (PP_l hP)) (ci := 7) (q0 := 0) rfl rfl) rfl rfl hl.1 rfl (lv_room (Nat.le_of_ble_eq_true rfl)) dL_isNextSo_6 ⟨(Nat.le_of_ble_eq_true rfl), (Nat.le_of_ble_eq_true rfl)⟩) hP hD hS hA (fun _ => oW_fst) (fun r_6 u_4 H locs q_5 hP hD hS => ?_)
  have hP : PP G (oW G a v u_4 ++ ouW G oa of) H := hP
  have hD : va_D A (oW G a v u_4 ++ ouW G oa of) := hD
  have hje := q_5.2.2.trans hje
  have hjj := q_5.2.1
  refine topE (v' := nI (BITS v)) (q_5.1) ?_
  refine lv_istore (lv' := [(4, .int (nI (BITS v))), (3, .int (nI (COM (sD v) (sT v) (sBu v)))), (0, .ref (a 0)), (1, .int (nI (0))), (2, .ref oa)]) hx hb dL_isNextSo_9 hl (by decide) rfl (fun ls hl => ?_)
  refine lv_iconst (v := nI (0)) hx hb dL_isNextSo_11 (by decide) ?_
  refine lv_istore (lv' := [(5, .int (nI (0))), (4, .int (nI (BITS v))), (3, .int (nI (COM (sD v) (sT v) (sBu v)))), (0, .ref (a 0)), (1, .int (nI (0))), (2, .ref oa)]) hx hb dL_isNextSo_12 hl (by decide) rfl (fun ls hl => ?_)
  refine lv_aload_n hx hb dL_isNextSo_14 rfl (lv_at hl 3 rfl) ?_
  refine kPi (va_runV (As := []) (rest := []) ⟨hx, hb, hml, hown, hts⟩ (c_X8_bitCount a v (oW_now (PP_l hP))) (cwV 0 hts gL_isNextSo_X8_bitCount rfl rfl rfl (by decide +kernel) ⟨(Nat.le_of_ble_eq_true rfl), (Nat.le_of_ble_eq_true rfl)⟩) (preV hC hS hLo (oW_obj (PP_l hP)) (ci := 7) (q0 := 0) rfl rfl) rfl rfl hl.1 rfl (lv_room (Nat.le_of_ble_eq_true rfl)) dL_isNextSo_15 ⟨(Nat.le_of_ble_eq_true rfl), (Nat.le_of_ble_eq_true rfl)⟩) hS (fun locs hS => ?_)
  refine topE (v' := nI (sBi v)) (rfl) ?_
  refine lv_istore (lv' := [(6, .int (nI (sBi v))), (5, .int (nI (0))), (4, .int (nI (BITS v))), (3, .int (nI (COM (sD v) (sT v) (sBu v)))), (0, .ref (a 0)), (1, .int (nI (0))), (2, .ref oa)]) hx hb dL_isNextSo_18 hl (by decide) rfl (fun ls hl => ?_)
  refine lv_aload_n hx hb dL_isNextSo_20 rfl (lv_at hl 4 rfl) ?_
  refine kPi (va_runV (As := []) (rest := []) ⟨hx, hb, hml, hown, hts⟩ (c_X8_pictureCount a v (oW_now (PP_l hP))) (cwV 0 hts gL_isNextSo_X8_pictureCount rfl rfl rfl (by decide +kernel) ⟨(Nat.le_of_ble_eq_true rfl), (Nat.le_of_ble_eq_true rfl)⟩) (preV hC hS hLo (oW_obj (PP_l hP)) (ci := 7) (q0 := 0) rfl rfl) rfl rfl hl.1 rfl (lv_room (Nat.le_of_ble_eq_true rfl)) dL_isNextSo_21 ⟨(Nat.le_of_ble_eq_true rfl), (Nat.le_of_ble_eq_true rfl)⟩) hS (fun locs hS => ?_)
  refine topE (v' := nI (sPi v)) (rfl) ?_
  refine lv_istore (lv' := [(7, .int (nI (sPi v))), (6, .int (nI (sBi v))), (5, .int (nI (0))), (4, .int (nI (BITS v))), (3, .int (nI (COM (sD v) (sT v) (sBu v)))), (0, .ref (a 0)), (1, .int (nI (0))), (2, .ref oa)]) hx hb dL_isNextSo_24 hl (by decide) rfl (fun ls hl => ?_)
  refine lv_aload_n hx hb dL_isNextSo_26 rfl (lv_at hl 5 rfl) ?_
  refine kPi (va_runV (As := []) (rest := []) ⟨hx, hb, hml, hown, hts⟩ (c_X8_drift a v hd ht hg (oW_now (PP_l hP))) (cwV 0 hts gL_isNextSo_X8_drift rfl rfl rfl (by decide +kernel) ⟨(Nat.le_of_ble_eq_true rfl), (Nat.le_of_ble_eq_true rfl)⟩) (preV hC hS hLo (oW_obj (PP_l hP)) (ci := 7) (q0 := 0) rfl rfl) rfl rfl hl.1 rfl (lv_room (Nat.le_of_ble_eq_true rfl)) dL_isNextSo_27 ⟨(Nat.le_of_ble_eq_true rfl), (Nat.le_of_ble_eq_true rfl)⟩) hS (fun locs hS => ?_)
  refine topE (v' := iI (sZ (fun j => ((sT v j - sG v j).natAbs : Int)) 64)) (rfl) ?_
  refine lv_istore (lv' := [(8, .int (iI (sZ (fun j => ((sT v j - sG v j).natAbs : Int)) 64))), (7, .int (nI (sPi v))), (6, .int (nI (sBi v))), (5, .int (nI (0))), (4, .int (nI (BITS v))), (3, .int (nI (COM (sD v) (sT v) (sBu v)))), (0, .ref (a 0)), (1, .int (nI (0))), (2, .ref oa)]) hx hb dL_isNextSo_30 hl (by decide) rfl (fun ls hl => ?_)
  refine lv_aload_n hx hb dL_isNextSo_32 rfl (lv_at hl 6 rfl) ?_
  refine kPi (va_runV (As := []) (rest := []) ⟨hx, hb, hml, hown, hts⟩ (c_X8_isKeyNext a v hkd (Nat.le_trans hpi (by decide)) (oW_now (PP_l hP))) (cwV 0 hts gL_isNextSo_X8_isKeyNext rfl rfl rfl (by decide +kernel) ⟨(Nat.le_of_ble_eq_true rfl), (Nat.le_of_ble_eq_true rfl)⟩) (preV hC hS hLo (oW_obj (PP_l hP)) (ci := 7) (q0 := 0) rfl rfl) rfl rfl hl.1 rfl (lv_room (Nat.le_of_ble_eq_true rfl)) dL_isNextSo_33 ⟨(Nat.le_of_ble_eq_true rfl), (Nat.le_of_ble_eq_true rfl)⟩) hS (fun locs hS => ?_)
  refine topE (v' := nI (0)) (bI_f hkey) ?_
  refine lv_istore (lv' := [(9, .int (nI (0))), (8, .int (iI (sZ (fun j => ((sT v j - sG v j).natAbs : Int)) 64))), (7, .int (nI (sPi v))), (6, .int (nI (sBi v))), (5, .int (nI (0))), (4, .int (nI (BITS v))), (3, .int (nI (COM (sD v) (sT v) (sBu v)))), (0, .ref (a 0)), (1, .int (nI (0))), (2, .ref oa)]) hx hb dL_isNextSo_36 hl (by decide) rfl (fun ls hl => ?_)
  refine lv_iconst (v := nI (0)) hx hb dL_isNextSo_38 (by decide) ?_
  refine lv_istore (lv' := [(10, .int (nI (0))), (9, .int (nI (0))), (8, .int (iI (sZ (fun j => ((sT v j - sG v j).natAbs : Int)) 64))), (7, .int (nI (sPi v))), (6, .int (nI (sBi v))), (5, .int (nI (0))), (4, .int (nI (BITS v))), (3, .int (nI (COM (sD v) (sT v) (sBu v)))), (0, .ref (a 0)), (1, .int (nI (0))), (2, .ref oa)]) hx hb dL_isNextSo_39 hl (by decide) rfl (fun ls hl => ?_)
  have L_41 : ∀ (n_41 : Nat) (i : Nat) (jj : JT), 4 - i < n_41 → (i ≤ 4) → (OKJ jj) → (jH jj = jH j) → ∀ (H : Heap) (locs : List Loc) (ls : Array Slot), PP G (oW G a v jj ++ ouW G oa of) H → va_D A (oW G a v jj ++ ouW G oa of) → va_S A s.heap H locs → lv_has ls 12 [(0, .ref (a 0)), (1, .int (nI (0))), (2, .ref oa), (3, .int (nI (COM (sD v) (sT v) (sBu v)))), (4, .int (nI (BITS v))), (5, .int (nI (ABM (sD v) (sT v) (COM (sD v) (sT v) (sBu v)) i))), (6, .int (nI (sBi v))), (7, .int (nI (sPi v))), (8, .int (iI (sZ (fun j => ((sT v j - sG v j).natAbs : Int)) 64))), (9, .int (nI (0))), (10, .int (nI (i)))] → W pg l ev ({ frames := 9, cells := 1, slots := 6, locals := 168 } : Room) s m (([.ref (a 0), .int (nI (0)), .ref oa] : List Value).toArray) below meth c H locs 0 0 (MQ below (va_Qi (fun (r : Int32) (u : JT × (Nat → Int32)) => r = nI 1 ∧ OKJ u.1 ∧ jH u.1 = rbH (jH j) v) (fun (u : JT × (Nat → Int32)) t9 => PP G (oW G a v u.1 ++ ouW G oa u.2) t9.heap) A) (([.ref (a 0), .int (nI (0)), .ref oa] : List Value).toArray) s 1 6 A) (F0 m 41 ls []) := by
    intro n_41
    induction n_41 with
    | zero => intro i jj hn; exact absurd hn (Nat.not_lt_zero _)
    | succ n_41 ih_41 =>
      intro i jj hn_41 hi9 hjj hje H locs ls hP hD hS hl
      refine lv_iload hx hb dL_isNextSo_41 (lv_at hl 10 rfl) ?_
      refine lv_iconst (v := nI (4)) hx hb dL_isNextSo_43 (by decide) ?_
      refine lv_icmp_ge (tgt := 75) hx hb dL_isNextSo_44 (by decide) (fun c_7 => ?_) (fun c_7 => ?_)
      · have f_8 : (4 : Int) ≤ ((i : Nat) : Int) := (c_le (nI_toInt (n := 4) (by omega)) (nI_toInt (n := i) (by omega))).mp c_7
        have e_i : i = 4 := by omega
        replace e_i := e_i.symm
        subst e_i
        refine lv_iload hx hb dL_isNextSo_75 (lv_at hl 9 rfl) ?_
        refine lv_iload_n hx hb dL_isNextSo_77 rfl (lv_at hl 3 rfl) ?_
        refine lv_iconst (v := iI (-1)) hx hb dL_isNextSo_78 (by decide) ?_
        refine lv_icmp_ne (tgt := 86) hx hb dL_isNextSo_79 (by decide) (fun c_9 => ?_) (fun c_9 => ?_)
        · have f_10 : ¬ ((COM (sD v) (sT v) (sBu v) : Nat) : Int) = (-1) := fun z => c_9 ((c_eq (nI_toInt (n := COM (sD v) (sT v) (sBu v)) (by omega)) (iI_toInt (by omega) (by omega))).mpr z)
          refine lv_iconst (v := nI (0)) hx hb dL_isNextSo_86 (by decide) ?_
          refine lv_icmp_ne (tgt := 131) hx hb dL_isNextSo_87 (by decide) (fun c_11 => ?_) (fun c_11 => ?_)
          · have f_12 := c_11
            exact absurd rfl f_12
          · have f_13 := c_11
            refine lv_iload hx hb dL_isNextSo_90 (lv_at hl 4 rfl) ?_
            refine lv_iload hx hb dL_isNextSo_92 (lv_at hl 5 rfl) ?_
            refine lv_icmp_ne (tgt := 131) hx hb dL_isNextSo_94 (by decide) (fun c_14 => ?_) (fun c_14 => ?_)
            · have f_15 : ¬ ((BITS v : Nat) : Int) = ((ABM (sD v) (sT v) (COM (sD v) (sT v) (sBu v)) 4 : Nat) : Int) := fun z => c_14 ((c_eq (nI_toInt (n := BITS v) (by omega)) (nI_toInt (n := ABM (sD v) (sT v) (COM (sD v) (sT v) (sBu v)) 4) (by omega))).mpr z)
              exfalso; omega
            · have f_16 : ((BITS v : Nat) : Int) = ((ABM (sD v) (sT v) (COM (sD v) (sT v) (sBu v)) 4 : Nat) : Int) := (c_eq (nI_toInt (n := BITS v) (by omega)) (nI_toInt (n := ABM (sD v) (sT v) (COM (sD v) (sT v) (sBu v)) 4) (by omega))).mp c_14
              refine lv_iload hx hb dL_isNextSo_97 (lv_at hl 4 rfl) ?_
              refine lv_iconst (v := nI (4)) hx hb dL_isNextSo_99 (by decide) ?_
              refine lv_icmp_lt (tgt := 131) hx hb dL_isNextSo_100 (by decide) (fun c_17 => ?_) (fun c_17 => ?_)
              · have f_18 : ((BITS v : Nat) : Int) < (4 : Int) := (c_lt (nI_toInt (n := BITS v) (by omega)) (nI_toInt (n := 4) (by omega))).mp c_17
                exfalso; omega
              · have f_19 : ¬ ((BITS v : Nat) : Int) < (4 : Int) := fun z => c_17 ((c_lt (nI_toInt (n := BITS v) (by omega)) (nI_toInt (n := 4) (by omega))).mpr z)
                refine lv_iload hx hb dL_isNextSo_103 (lv_at hl 4 rfl) ?_
                refine lv_sipush (v := nI (264)) hx hb dL_isNextSo_105 (by decide) ?_
                refine lv_icmp_gt (tgt := 131) hx hb dL_isNextSo_108 (by decide) (fun c_20 => ?_) (fun c_20 => ?_)
                · have f_21 : (264 : Int) < ((BITS v : Nat) : Int) := (c_lt (nI_toInt (n := 264) (by omega)) (nI_toInt (n := BITS v) (by omega))).mp c_20
                  exfalso; omega
                · have f_22 : ¬ (264 : Int) < ((BITS v : Nat) : Int) := fun z => c_20 ((c_lt (nI_toInt (n := 264) (by omega)) (nI_toInt (n := BITS v) (by omega))).mpr z)
                  refine lv_iload hx hb dL_isNextSo_111 (lv_at hl 9 rfl) ?_
                  refine lv_if_ne (tgt := 127) hx hb dL_isNextSo_113 (by decide) (fun c_23 => ?_) (fun c_23 => ?_)
                  · have f_24 : ¬ (0 : Int) = (0 : Int) := fun z => c_23 ((c_eq (nI_toInt (n := 0) (by omega)) rfl).mpr z)
                    exfalso; omega
                  · have f_25 : (0 : Int) = (0 : Int) := (c_eq (nI_toInt (n := 0) (by omega)) rfl).mp c_23
                    refine lv_iload_n hx hb dL_isNextSo_116 rfl (lv_at hl 3 rfl) ?_
                    refine lv_iconst (v := nI (1)) hx hb dL_isNextSo_117 (by decide) ?_
                    refine lv_icmp_lt (tgt := 131) hx hb dL_isNextSo_118 (by decide) (fun c_26 => ?_) (fun c_26 => ?_)
                    · have f_27 : ((COM (sD v) (sT v) (sBu v) : Nat) : Int) < (1 : Int) := (c_lt (nI_toInt (n := COM (sD v) (sT v) (sBu v)) (by omega)) (nI_toInt (n := 1) (by omega))).mp c_26
                      exfalso; omega
                    · have f_28 : ¬ ((COM (sD v) (sT v) (sBu v) : Nat) : Int) < (1 : Int) := fun z => c_26 ((c_lt (nI_toInt (n := COM (sD v) (sT v) (sBu v)) (by omega)) (nI_toInt (n := 1) (by omega))).mpr z)
                      refine lv_iload_n hx hb dL_isNextSo_121 rfl (lv_at hl 3 rfl) ?_
                      refine lv_bipush (v := nI (8)) hx hb dL_isNextSo_122 (by decide) ?_
                      refine lv_icmp_gt (tgt := 131) hx hb dL_isNextSo_124 (by decide) (fun c_29 => ?_) (fun c_29 => ?_)
                      · have f_30 : (8 : Int) < ((COM (sD v) (sT v) (sBu v) : Nat) : Int) := (c_lt (nI_toInt (n := 8) (by omega)) (nI_toInt (n := COM (sD v) (sT v) (sBu v)) (by omega))).mp c_29
                        exfalso; omega
                      · have f_31 : ¬ (8 : Int) < ((COM (sD v) (sT v) (sBu v) : Nat) : Int) := fun z => c_29 ((c_lt (nI_toInt (n := 8) (by omega)) (nI_toInt (n := COM (sD v) (sT v) (sBu v)) (by omega))).mpr z)
                        refine lv_iconst (v := nI (1)) hx hb dL_isNextSo_127 (by decide) ?_
                        refine lv_goto (tgt := 132) hx hb dL_isNextSo_128 (by decide) ?_
                        refine lv_istore (lv' := [(10, .int (nI (1))), (0, .ref (a 0)), (1, .int (nI (0))), (2, .ref oa), (3, .int (nI (COM (sD v) (sT v) (sBu v)))), (4, .int (nI (BITS v))), (5, .int (nI (ABM (sD v) (sT v) (COM (sD v) (sT v) (sBu v)) 4))), (6, .int (nI (sBi v))), (7, .int (nI (sPi v))), (8, .int (iI (sZ (fun j => ((sT v j - sG v j).natAbs : Int)) 64))), (9, .int (nI (0)))]) hx hb dL_isNextSo_132 hl (by decide) rfl (fun ls hl => ?_)
                        refine lv_aload_n hx hb dL_isNextSo_134 rfl (lv_at hl 1 rfl) ?_
                        refine lv_iconst (v := nI (3)) hx hb dL_isNextSo_135 (by decide) ?_
                        refine lv_iload_n hx hb dL_isNextSo_136 rfl (lv_at hl 2 rfl) ?_
                        refine lv_if_eq (tgt := 144) hx hb dL_isNextSo_137 (by decide) (fun c_32 => ?_) (fun c_32 => ?_)
                        · have f_33 : (0 : Int) = (0 : Int) := (c_eq (nI_toInt (n := 0) (by omega)) rfl).mp c_32
                          refine lv_iconst (v := nI (0)) hx hb dL_isNextSo_144 (by decide) ?_
                          refine lv_iconst (v := nI (0)) hx hb dL_isNextSo_145 (by decide) ?_
                          refine lv_iconst (v := nI (0)) hx hb dL_isNextSo_146 (by decide) ?_
                          refine lv_aload_n hx hb dL_isNextSo_147 rfl (lv_at hl 3 rfl) ?_
                          refine kWi (vx_runSW (As := [.ref (a 0), .int (nI (3)), .int (nI (0)), .int (nI (0)), .int (nI (0)), .ref oa]) (rest := []) ⟨hx, hb, hml, hown, hts⟩ (o_chg_3 a v jj oa of (nI (0)) (nI (0)) (nI (0)) (Or.inl rfl) hv0 (by omega) hjj hfl hP (hD.weaken (fun _ _ _ h => hLo _ h))) (vx_cwSW 6 hts gL_isNextSo_L_changes rfl rfl rfl (by decide +kernel) ⟨(Nat.le_of_ble_eq_true rfl), (Nat.le_of_ble_eq_true rfl)⟩) (preSX hCX hS hLo) rfl rfl hl.1 rfl (lv_room (Nat.le_of_ble_eq_true rfl)) dL_isNextSo_148 ⟨(Nat.le_of_ble_eq_true rfl), (Nat.le_of_ble_eq_true rfl)⟩) hP hD hS hA (fun _ => ou_fst) (fun r_34 u_35 H locs q_36 hP hD hS => ?_)
                          obtain ⟨v1, j1, of1⟩ := u_35
                          obtain ⟨qr, q2, _⟩ := q_36
                          obtain ⟨mo, hmo1, hu1, hj1, hjh1, hof⟩ := q2 rfl
                          have hu1 : v1 = sndV 0 v mo := hu1.trans (by show sndV (nI 0).toInt.toNat v mo = _; rw [show (nI 0).toInt.toNat = 0 by decide])
                          subst hu1
                          have hj1 : OKJ j1 := hj1
                          have hjh1 : jH j1 = rcH (jH j) v := hjh1.trans (by rw [hje])
                          obtain ⟨hvs, hps, hpi1, hbi1⟩ := snd_ok (mo := mo) (lost := 0) hv0 hpc0 (by omega)
                          have hP : PP G (oW G a (sndV 0 v mo) j1 ++ ouW G oa of1) H := hP
                          have hD : va_D A (oW G a (sndV 0 v mo) j1 ++ ouW G oa of1) := hD
                          refine topE (v' := nI 0) qr ?_
                          refine lv_istore (lv' := [(11, .int (nI (0))), (10, .int (nI (1))), (0, .ref (a 0)), (1, .int (nI (0))), (2, .ref oa), (3, .int (nI (COM (sD v) (sT v) (sBu v)))), (4, .int (nI (BITS v))), (5, .int (nI (ABM (sD v) (sT v) (COM (sD v) (sT v) (sBu v)) 4))), (6, .int (nI (sBi v))), (7, .int (nI (sPi v))), (8, .int (iI (sZ (fun j => ((sT v j - sG v j).natAbs : Int)) 64))), (9, .int (nI (0)))]) hx hb dL_isNextSo_151 hl (by decide) rfl (fun ls hl => ?_)
                          refine lv_iload hx hb dL_isNextSo_153 (lv_at hl 1 rfl) ?_
                          refine lv_if_eq (tgt := 226) hx hb dL_isNextSo_155 (by decide) (fun c_37 => ?_) (fun c_37 => ?_)
                          · have f_38 : (1 : Int) = (0 : Int) := (c_eq (nI_toInt (n := 1) (by omega)) rfl).mp c_37
                            exfalso; omega
                          · have f_39 : ¬ (1 : Int) = (0 : Int) := fun z => c_37 ((c_eq (nI_toInt (n := 1) (by omega)) rfl).mpr z)
                            refine lv_iload hx hb dL_isNextSo_158 (lv_at hl 0 rfl) ?_
                            refine lv_if_ne (tgt := 226) hx hb dL_isNextSo_160 (by decide) (fun c_40 => ?_) (fun c_40 => ?_)
                            · have f_41 : ¬ (0 : Int) = (0 : Int) := fun z => c_40 ((c_eq (nI_toInt (n := 0) (by omega)) rfl).mpr z)
                              exfalso; omega
                            · have f_42 : (0 : Int) = (0 : Int) := (c_eq (nI_toInt (n := 0) (by omega)) rfl).mp c_40
                              refine lv_aload_n hx hb dL_isNextSo_163 rfl (lv_at hl 4 rfl) ?_
                              refine lv_iconst (v := nI (0)) hx hb dL_isNextSo_164 (by decide) ?_
                              refine gIald (j := 0) hx hb hC.K (PP_r hP) 0 0 rfl rfl rfl (by decide) (by decide) dL_isNextSo_165 ?_
                              refine topE (v' := nI (BITS v)) (hof) ?_
                              refine lv_iload hx hb dL_isNextSo_166 (lv_at hl 6 rfl) ?_
                              refine lv_icmp_ne (tgt := 226) hx hb dL_isNextSo_168 (by decide) (fun c_43 => ?_) (fun c_43 => ?_)
                              · have f_44 := c_43
                                exact absurd rfl f_44
                              · have f_45 := c_43
                                refine lv_aload_n hx hb dL_isNextSo_171 rfl (lv_at hl 2 rfl) ?_
                                refine kPi (va_runV (As := []) (rest := []) ⟨hx, hb, hml, hown, hts⟩ (c_X8_bitCount a (sndV 0 v mo) (oW_now (PP_l hP))) (cwV 0 hts gL_isNextSo_X8_bitCount rfl rfl rfl (by decide +kernel) ⟨(Nat.le_of_ble_eq_true rfl), (Nat.le_of_ble_eq_true rfl)⟩) (preV hC hS hLo (oW_obj (PP_l hP)) (ci := 7) (q0 := 0) rfl rfl) rfl rfl hl.1 rfl (lv_room (Nat.le_of_ble_eq_true rfl)) dL_isNextSo_172 ⟨(Nat.le_of_ble_eq_true rfl), (Nat.le_of_ble_eq_true rfl)⟩) hS (fun locs hS => ?_)
                                refine topE (v' := nI ((sBi v) + (BITS v))) (congrArg nI hbi1) ?_
                                refine lv_iload hx hb dL_isNextSo_175 (lv_at hl 8 rfl) ?_
                                refine lv_iload hx hb dL_isNextSo_177 (lv_at hl 6 rfl) ?_
                                refine gAdd (z := nI ((sBi v) + (BITS v))) hx hb dL_isNextSo_179 (nI_add _ _) ?_
                                refine lv_icmp_ne (tgt := 226) hx hb dL_isNextSo_180 (by decide) (fun c_46 => ?_) (fun c_46 => ?_)
                                · have f_47 := c_46
                                  exact absurd rfl f_47
                                · have f_48 := c_46
                                  refine lv_aload_n hx hb dL_isNextSo_183 rfl (lv_at hl 2 rfl) ?_
                                  refine kPi (va_runV (As := []) (rest := []) ⟨hx, hb, hml, hown, hts⟩ (c_X8_pictureCount a (sndV 0 v mo) (oW_now (PP_l hP))) (cwV 0 hts gL_isNextSo_X8_pictureCount rfl rfl rfl (by decide +kernel) ⟨(Nat.le_of_ble_eq_true rfl), (Nat.le_of_ble_eq_true rfl)⟩) (preV hC hS hLo (oW_obj (PP_l hP)) (ci := 7) (q0 := 0) rfl rfl) rfl rfl hl.1 rfl (lv_room (Nat.le_of_ble_eq_true rfl)) dL_isNextSo_184 ⟨(Nat.le_of_ble_eq_true rfl), (Nat.le_of_ble_eq_true rfl)⟩) hS (fun locs hS => ?_)
                                  refine topE (v' := nI ((sPi v) + 1)) (congrArg nI hpi1) ?_
                                  refine lv_iload hx hb dL_isNextSo_187 (lv_at hl 9 rfl) ?_
                                  refine lv_iconst (v := nI (1)) hx hb dL_isNextSo_189 (by decide) ?_
                                  refine gAdd (z := nI ((sPi v) + 1)) hx hb dL_isNextSo_190 (nI_add _ _) ?_
                                  refine lv_icmp_ne (tgt := 226) hx hb dL_isNextSo_191 (by decide) (fun c_49 => ?_) (fun c_49 => ?_)
                                  · have f_50 := c_49
                                    exact absurd rfl f_50
                                  · have f_51 := c_49
                                    refine lv_iload_n hx hb dL_isNextSo_194 rfl (lv_at hl 5 rfl) ?_
                                    refine lv_iconst (v := nI (1)) hx hb dL_isNextSo_195 (by decide) ?_
                                    refine lv_icmp_gt (tgt := 206) hx hb dL_isNextSo_196 (by decide) (fun c_52 => ?_) (fun c_52 => ?_)
                                    · have f_53 : (1 : Int) < ((COM (sD v) (sT v) (sBu v) : Nat) : Int) := (c_lt (nI_toInt (n := 1) (by omega)) (nI_toInt (n := COM (sD v) (sT v) (sBu v)) (by omega))).mp c_52
                                      refine lv_iload hx hb dL_isNextSo_206 (lv_at hl 11 rfl) ?_
                                      refine lv_if_eq (tgt := 222) hx hb dL_isNextSo_208 (by decide) (fun c_54 => ?_) (fun c_54 => ?_)
                                      · have f_55 : (0 : Int) = (0 : Int) := (c_eq (nI_toInt (n := 0) (by omega)) rfl).mp c_54
                                        refine lv_iconst (v := nI (1)) hx hb dL_isNextSo_222 (by decide) ?_
                                        refine lv_goto (tgt := 227) hx hb dL_isNextSo_223 (by decide) ?_
                                        refine lv_istore (lv' := [(10, .int (nI (1))), (11, .int (nI (0))), (0, .ref (a 0)), (1, .int (nI (0))), (2, .ref oa), (3, .int (nI (COM (sD v) (sT v) (sBu v)))), (4, .int (nI (BITS v))), (5, .int (nI (ABM (sD v) (sT v) (COM (sD v) (sT v) (sBu v)) 4))), (6, .int (nI (sBi v))), (7, .int (nI (sPi v))), (8, .int (iI (sZ (fun j => ((sT v j - sG v j).natAbs : Int)) 64))), (9, .int (nI (0)))]) hx hb dL_isNextSo_227 hl (by decide) rfl (fun ls hl => ?_)
                                        refine lv_iload hx hb dL_isNextSo_229 (lv_at hl 11 rfl) ?_
                                        refine lv_if_ne (tgt := 267) hx hb dL_isNextSo_231 (by decide) (fun c_56 => ?_) (fun c_56 => ?_)
                                        · have f_57 : ¬ (0 : Int) = (0 : Int) := fun z => c_56 ((c_eq (nI_toInt (n := 0) (by omega)) rfl).mpr z)
                                          exfalso; omega
                                        · have f_58 : (0 : Int) = (0 : Int) := (c_eq (nI_toInt (n := 0) (by omega)) rfl).mp c_56
                                          refine lv_iload_n hx hb dL_isNextSo_234 rfl (lv_at hl 5 rfl) ?_
                                          refine lv_iconst (v := nI (1)) hx hb dL_isNextSo_235 (by decide) ?_
                                          refine lv_icmp_ne (tgt := 267) hx hb dL_isNextSo_236 (by decide) (fun c_59 => ?_) (fun c_59 => ?_)
                                          · have f_60 : ¬ ((COM (sD v) (sT v) (sBu v) : Nat) : Int) = (1 : Int) := fun z => c_59 ((c_eq (nI_toInt (n := COM (sD v) (sT v) (sBu v)) (by omega)) (nI_toInt (n := 1) (by omega))).mpr z)
                                            refine lv_iload hx hb dL_isNextSo_267 (lv_at hl 0 rfl) ?_
                                            refine lv_if_eq (tgt := 310) hx hb dL_isNextSo_269 (by decide) (fun c_61 => ?_) (fun c_61 => ?_)
                                            · have f_62 : (1 : Int) = (0 : Int) := (c_eq (nI_toInt (n := 1) (by omega)) rfl).mp c_61
                                              exfalso; omega
                                            · have f_63 : ¬ (1 : Int) = (0 : Int) := fun z => c_61 ((c_eq (nI_toInt (n := 1) (by omega)) rfl).mpr z)
                                              refine lv_aload_n hx hb dL_isNextSo_272 rfl (lv_at hl 2 rfl) ?_
                                              refine kPreI (va_runV (As := []) (rest := []) ⟨hx, hb, hml, hown, hts⟩ (o_undo a (sndV 0 v mo) j1 (jH j) v hj.2.2.1 hj1 hjh1 (PP_l hP) ((pre_D hD).weaken (fun _ _ _ h => hLo _ h))) (cwV 0 hts gL_isNextSo_X8_undo rfl rfl rfl (by decide +kernel) ⟨(Nat.le_of_ble_eq_true rfl), (Nat.le_of_ble_eq_true rfl)⟩) (preV hC hS hLo (oW_obj (PP_l hP)) (ci := 7) (q0 := 0) rfl rfl) rfl rfl hl.1 rfl (lv_room (Nat.le_of_ble_eq_true rfl)) dL_isNextSo_273 ⟨(Nat.le_of_ble_eq_true rfl), (Nat.le_of_ble_eq_true rfl)⟩) hP hD hS hA (fun _ => oW_fst) (fun r_66 u_64 H locs q_65 hP hD hS => ?_)
                                              have hP : PP G (oW G a v u_64 ++ ouW G oa of1) H := hP
                                              have hD : va_D A (oW G a v u_64 ++ ouW G oa of1) := hD
                                              have hjj := q_65.2.1
                                              have hje := q_65.2.2
                                              refine topE (v' := nI (min ((jH j).2.1 + 1) 6 - 1)) (q_65.1) ?_
                                              refine lv_if_lt (tgt := 310) hx hb dL_isNextSo_276 (by decide) (fun c_67 => ?_) (fun c_67 => ?_)
                                              · have f_68 : ((min ((jH j).2.1 + 1) 6 - 1 : Nat) : Int) < (0 : Int) := (c_lt (nI_toInt (n := min ((jH j).2.1 + 1) 6 - 1) (by omega)) rfl).mp c_67
                                                exfalso; omega
                                              · have f_69 : ¬ ((min ((jH j).2.1 + 1) 6 - 1 : Nat) : Int) < (0 : Int) := fun z => c_67 ((c_lt (nI_toInt (n := min ((jH j).2.1 + 1) 6 - 1) (by omega)) rfl).mpr z)
                                                refine lv_aload_n hx hb dL_isNextSo_279 rfl (lv_at hl 2 rfl) ?_
                                                refine kPi (va_runV (As := []) (rest := []) ⟨hx, hb, hml, hown, hts⟩ (c_X8_pictureCount a v (oW_now (PP_l hP))) (cwV 0 hts gL_isNextSo_X8_pictureCount rfl rfl rfl (by decide +kernel) ⟨(Nat.le_of_ble_eq_true rfl), (Nat.le_of_ble_eq_true rfl)⟩) (preV hC hS hLo (oW_obj (PP_l hP)) (ci := 7) (q0 := 0) rfl rfl) rfl rfl hl.1 rfl (lv_room (Nat.le_of_ble_eq_true rfl)) dL_isNextSo_280 ⟨(Nat.le_of_ble_eq_true rfl), (Nat.le_of_ble_eq_true rfl)⟩) hS (fun locs hS => ?_)
                                                refine topE (v' := nI (sPi v)) (rfl) ?_
                                                refine lv_iload hx hb dL_isNextSo_283 (lv_at hl 9 rfl) ?_
                                                refine lv_icmp_ne (tgt := 310) hx hb dL_isNextSo_285 (by decide) (fun c_70 => ?_) (fun c_70 => ?_)
                                                · have f_71 := c_70
                                                  exact absurd rfl f_71
                                                · have f_72 := c_70
                                                  refine lv_aload_n hx hb dL_isNextSo_288 rfl (lv_at hl 2 rfl) ?_
                                                  refine kPi (va_runV (As := []) (rest := []) ⟨hx, hb, hml, hown, hts⟩ (c_X8_drift a v hd ht hg (oW_now (PP_l hP))) (cwV 0 hts gL_isNextSo_X8_drift rfl rfl rfl (by decide +kernel) ⟨(Nat.le_of_ble_eq_true rfl), (Nat.le_of_ble_eq_true rfl)⟩) (preV hC hS hLo (oW_obj (PP_l hP)) (ci := 7) (q0 := 0) rfl rfl) rfl rfl hl.1 rfl (lv_room (Nat.le_of_ble_eq_true rfl)) dL_isNextSo_289 ⟨(Nat.le_of_ble_eq_true rfl), (Nat.le_of_ble_eq_true rfl)⟩) hS (fun locs hS => ?_)
                                                  refine topE (v' := iI (sZ (fun j => ((sT v j - sG v j).natAbs : Int)) 64)) (rfl) ?_
                                                  refine lv_iload hx hb dL_isNextSo_292 (lv_at hl 10 rfl) ?_
                                                  refine lv_icmp_ne (tgt := 310) hx hb dL_isNextSo_294 (by decide) (fun c_73 => ?_) (fun c_73 => ?_)
                                                  · have f_74 := c_73
                                                    exact absurd rfl f_74
                                                  · have f_75 := c_73
                                                    refine lv_aload_n hx hb dL_isNextSo_297 rfl (lv_at hl 2 rfl) ?_
                                                    refine kPreI (va_runV (As := []) (rest := []) ⟨hx, hb, hml, hown, hts⟩ (o_bitsNext a v u_64 hv0 (by omega) hjj (PP_l hP) ((pre_D hD).weaken (fun _ _ _ h => hLo _ h))) (cwV 0 hts gL_isNextSo_X8_bitsNext rfl rfl rfl (by decide +kernel) ⟨(Nat.le_of_ble_eq_true rfl), (Nat.le_of_ble_eq_true rfl)⟩) (preV hC hS hLo (oW_obj (PP_l hP)) (ci := 7) (q0 := 0) rfl rfl) rfl rfl hl.1 rfl (lv_room (Nat.le_of_ble_eq_true rfl)) dL_isNextSo_298 ⟨(Nat.le_of_ble_eq_true rfl), (Nat.le_of_ble_eq_true rfl)⟩) hP hD hS hA (fun _ => oW_fst) (fun r_78 u_76 H locs q_77 hP hD hS => ?_)
                                                    have hP : PP G (oW G a v u_76 ++ ouW G oa of1) H := hP
                                                    have hD : va_D A (oW G a v u_76 ++ ouW G oa of1) := hD
                                                    have hje := q_77.2.2.trans hje
                                                    have hjj := q_77.2.1
                                                    refine topE (v' := nI (BITS v)) (q_77.1) ?_
                                                    refine lv_iload hx hb dL_isNextSo_301 (lv_at hl 6 rfl) ?_
                                                    refine lv_icmp_ne (tgt := 310) hx hb dL_isNextSo_303 (by decide) (fun c_79 => ?_) (fun c_79 => ?_)
                                                    · have f_80 := c_79
                                                      exact absurd rfl f_80
                                                    · have f_81 := c_79
                                                      refine lv_iconst (v := nI (1)) hx hb dL_isNextSo_306 (by decide) ?_
                                                      refine lv_goto (tgt := 311) hx hb dL_isNextSo_307 (by decide) ?_
                                                      exact xMi (G := G) (post := (fun (r : Int32) (u : JT × (Nat → Int32)) => r = nI 1 ∧ OKJ u.1 ∧ jH u.1 = rbH (jH j) v)) (w1 := (fun (u : JT × (Nat → Int32)) => oW G a v u.1 ++ ouW G oa u.2)) ((u_76, of1)) hx hb hr hlocks hP hS (by exact ⟨rfl, hjj, hje⟩) (by exact rfl) dL_isNextSo_311
                                          · have f_82 : ((COM (sD v) (sT v) (sBu v) : Nat) : Int) = (1 : Int) := (c_eq (nI_toInt (n := COM (sD v) (sT v) (sBu v)) (by omega)) (nI_toInt (n := 1) (by omega))).mp c_59
                                            refine lv_iload_n hx hb dL_isNextSo_239 rfl (lv_at hl 3 rfl) ?_
                                            refine lv_if_ne (tgt := 267) hx hb dL_isNextSo_240 (by decide) (fun c_83 => ?_) (fun c_83 => ?_)
                                            · have f_84 : ¬ (0 : Int) = (0 : Int) := fun z => c_83 ((c_eq (nI_toInt (n := 0) (by omega)) rfl).mpr z)
                                              exfalso; omega
                                            · have f_85 : (0 : Int) = (0 : Int) := (c_eq (nI_toInt (n := 0) (by omega)) rfl).mp c_83
                                              refine lv_iload hx hb dL_isNextSo_243 (lv_at hl 10 rfl) ?_
                                              refine lv_if_ne (tgt := 267) hx hb dL_isNextSo_245 (by decide) (fun c_86 => ?_) (fun c_86 => ?_)
                                              · have f_87 : ¬ (sZ (fun j => ((sT v j - sG v j).natAbs : Int)) 64) = (0 : Int) := fun z => c_86 ((c_eq (iI_toInt (by omega) (by omega)) rfl).mpr z)
                                                refine lv_iload hx hb dL_isNextSo_267 (lv_at hl 0 rfl) ?_
                                                refine lv_if_eq (tgt := 310) hx hb dL_isNextSo_269 (by decide) (fun c_88 => ?_) (fun c_88 => ?_)
                                                · have f_89 : (1 : Int) = (0 : Int) := (c_eq (nI_toInt (n := 1) (by omega)) rfl).mp c_88
                                                  exfalso; omega
                                                · have f_90 : ¬ (1 : Int) = (0 : Int) := fun z => c_88 ((c_eq (nI_toInt (n := 1) (by omega)) rfl).mpr z)
                                                  refine lv_aload_n hx hb dL_isNextSo_272 rfl (lv_at hl 2 rfl) ?_
                                                  refine kPreI (va_runV (As := []) (rest := []) ⟨hx, hb, hml, hown, hts⟩ (o_undo a (sndV 0 v mo) j1 (jH j) v hj.2.2.1 hj1 hjh1 (PP_l hP) ((pre_D hD).weaken (fun _ _ _ h => hLo _ h))) (cwV 0 hts gL_isNextSo_X8_undo rfl rfl rfl (by decide +kernel) ⟨(Nat.le_of_ble_eq_true rfl), (Nat.le_of_ble_eq_true rfl)⟩) (preV hC hS hLo (oW_obj (PP_l hP)) (ci := 7) (q0 := 0) rfl rfl) rfl rfl hl.1 rfl (lv_room (Nat.le_of_ble_eq_true rfl)) dL_isNextSo_273 ⟨(Nat.le_of_ble_eq_true rfl), (Nat.le_of_ble_eq_true rfl)⟩) hP hD hS hA (fun _ => oW_fst) (fun r_93 u_91 H locs q_92 hP hD hS => ?_)
                                                  have hP : PP G (oW G a v u_91 ++ ouW G oa of1) H := hP
                                                  have hD : va_D A (oW G a v u_91 ++ ouW G oa of1) := hD
                                                  have hjj := q_92.2.1
                                                  have hje := q_92.2.2
                                                  refine topE (v' := nI (min ((jH j).2.1 + 1) 6 - 1)) (q_92.1) ?_
                                                  refine lv_if_lt (tgt := 310) hx hb dL_isNextSo_276 (by decide) (fun c_94 => ?_) (fun c_94 => ?_)
                                                  · have f_95 : ((min ((jH j).2.1 + 1) 6 - 1 : Nat) : Int) < (0 : Int) := (c_lt (nI_toInt (n := min ((jH j).2.1 + 1) 6 - 1) (by omega)) rfl).mp c_94
                                                    exfalso; omega
                                                  · have f_96 : ¬ ((min ((jH j).2.1 + 1) 6 - 1 : Nat) : Int) < (0 : Int) := fun z => c_94 ((c_lt (nI_toInt (n := min ((jH j).2.1 + 1) 6 - 1) (by omega)) rfl).mpr z)
                                                    refine lv_aload_n hx hb dL_isNextSo_279 rfl (lv_at hl 2 rfl) ?_
                                                    refine kPi (va_runV (As := []) (rest := []) ⟨hx, hb, hml, hown, hts⟩ (c_X8_pictureCount a v (oW_now (PP_l hP))) (cwV 0 hts gL_isNextSo_X8_pictureCount rfl rfl rfl (by decide +kernel) ⟨(Nat.le_of_ble_eq_true rfl), (Nat.le_of_ble_eq_true rfl)⟩) (preV hC hS hLo (oW_obj (PP_l hP)) (ci := 7) (q0 := 0) rfl rfl) rfl rfl hl.1 rfl (lv_room (Nat.le_of_ble_eq_true rfl)) dL_isNextSo_280 ⟨(Nat.le_of_ble_eq_true rfl), (Nat.le_of_ble_eq_true rfl)⟩) hS (fun locs hS => ?_)
                                                    refine topE (v' := nI (sPi v)) (rfl) ?_
                                                    refine lv_iload hx hb dL_isNextSo_283 (lv_at hl 9 rfl) ?_
                                                    refine lv_icmp_ne (tgt := 310) hx hb dL_isNextSo_285 (by decide) (fun c_97 => ?_) (fun c_97 => ?_)
                                                    · have f_98 := c_97
                                                      exact absurd rfl f_98
                                                    · have f_99 := c_97
                                                      refine lv_aload_n hx hb dL_isNextSo_288 rfl (lv_at hl 2 rfl) ?_
                                                      refine kPi (va_runV (As := []) (rest := []) ⟨hx, hb, hml, hown, hts⟩ (c_X8_drift a v hd ht hg (oW_now (PP_l hP))) (cwV 0 hts gL_isNextSo_X8_drift rfl rfl rfl (by decide +kernel) ⟨(Nat.le_of_ble_eq_true rfl), (Nat.le_of_ble_eq_true rfl)⟩) (preV hC hS hLo (oW_obj (PP_l hP)) (ci := 7) (q0 := 0) rfl rfl) rfl rfl hl.1 rfl (lv_room (Nat.le_of_ble_eq_true rfl)) dL_isNextSo_289 ⟨(Nat.le_of_ble_eq_true rfl), (Nat.le_of_ble_eq_true rfl)⟩) hS (fun locs hS => ?_)
                                                      refine topE (v' := iI (sZ (fun j => ((sT v j - sG v j).natAbs : Int)) 64)) (rfl) ?_
                                                      refine lv_iload hx hb dL_isNextSo_292 (lv_at hl 10 rfl) ?_
                                                      refine lv_icmp_ne (tgt := 310) hx hb dL_isNextSo_294 (by decide) (fun c_100 => ?_) (fun c_100 => ?_)
                                                      · have f_101 := c_100
                                                        exact absurd rfl f_101
                                                      · have f_102 := c_100
                                                        refine lv_aload_n hx hb dL_isNextSo_297 rfl (lv_at hl 2 rfl) ?_
                                                        refine kPreI (va_runV (As := []) (rest := []) ⟨hx, hb, hml, hown, hts⟩ (o_bitsNext a v u_91 hv0 (by omega) hjj (PP_l hP) ((pre_D hD).weaken (fun _ _ _ h => hLo _ h))) (cwV 0 hts gL_isNextSo_X8_bitsNext rfl rfl rfl (by decide +kernel) ⟨(Nat.le_of_ble_eq_true rfl), (Nat.le_of_ble_eq_true rfl)⟩) (preV hC hS hLo (oW_obj (PP_l hP)) (ci := 7) (q0 := 0) rfl rfl) rfl rfl hl.1 rfl (lv_room (Nat.le_of_ble_eq_true rfl)) dL_isNextSo_298 ⟨(Nat.le_of_ble_eq_true rfl), (Nat.le_of_ble_eq_true rfl)⟩) hP hD hS hA (fun _ => oW_fst) (fun r_105 u_103 H locs q_104 hP hD hS => ?_)
                                                        have hP : PP G (oW G a v u_103 ++ ouW G oa of1) H := hP
                                                        have hD : va_D A (oW G a v u_103 ++ ouW G oa of1) := hD
                                                        have hje := q_104.2.2.trans hje
                                                        have hjj := q_104.2.1
                                                        refine topE (v' := nI (BITS v)) (q_104.1) ?_
                                                        refine lv_iload hx hb dL_isNextSo_301 (lv_at hl 6 rfl) ?_
                                                        refine lv_icmp_ne (tgt := 310) hx hb dL_isNextSo_303 (by decide) (fun c_106 => ?_) (fun c_106 => ?_)
                                                        · have f_107 := c_106
                                                          exact absurd rfl f_107
                                                        · have f_108 := c_106
                                                          refine lv_iconst (v := nI (1)) hx hb dL_isNextSo_306 (by decide) ?_
                                                          refine lv_goto (tgt := 311) hx hb dL_isNextSo_307 (by decide) ?_
                                                          exact xMi (G := G) (post := (fun (r : Int32) (u : JT × (Nat → Int32)) => r = nI 1 ∧ OKJ u.1 ∧ jH u.1 = rbH (jH j) v)) (w1 := (fun (u : JT × (Nat → Int32)) => oW G a v u.1 ++ ouW G oa u.2)) ((u_103, of1)) hx hb hr hlocks hP hS (by exact ⟨rfl, hjj, hje⟩) (by exact rfl) dL_isNextSo_311
                                              · have f_109 : (sZ (fun j => ((sT v j - sG v j).natAbs : Int)) 64) = (0 : Int) := (c_eq (iI_toInt (by omega) (by omega)) rfl).mp c_86
                                                refine lv_iload hx hb dL_isNextSo_248 (lv_at hl 0 rfl) ?_
                                                refine lv_if_eq (tgt := 264) hx hb dL_isNextSo_250 (by decide) (fun c_110 => ?_) (fun c_110 => ?_)
                                                · have f_111 : (1 : Int) = (0 : Int) := (c_eq (nI_toInt (n := 1) (by omega)) rfl).mp c_110
                                                  exfalso; omega
                                                · have f_112 : ¬ (1 : Int) = (0 : Int) := fun z => c_110 ((c_eq (nI_toInt (n := 1) (by omega)) rfl).mpr z)
                                                  refine lv_aload_n hx hb dL_isNextSo_253 rfl (lv_at hl 2 rfl) ?_
                                                  refine kPi (va_runV (As := []) (rest := []) ⟨hx, hb, hml, hown, hts⟩ (c_X8_drift a (sndV 0 v mo) hvs.1 hvs.2.1 hvs.2.2.1 (oW_now (PP_l hP))) (cwV 0 hts gL_isNextSo_X8_drift rfl rfl rfl (by decide +kernel) ⟨(Nat.le_of_ble_eq_true rfl), (Nat.le_of_ble_eq_true rfl)⟩) (preV hC hS hLo (oW_obj (PP_l hP)) (ci := 7) (q0 := 0) rfl rfl) rfl rfl hl.1 rfl (lv_room (Nat.le_of_ble_eq_true rfl)) dL_isNextSo_254 ⟨(Nat.le_of_ble_eq_true rfl), (Nat.le_of_ble_eq_true rfl)⟩) hS (fun locs hS => ?_)
                                                  refine topE (v' := nI (0)) ((congrArg iI (drf_0 (snd_drf hv0 hkey (drf_e (by assumption))))).trans (nI_i 0).symm) ?_
                                                  refine lv_if_ne (tgt := 264) hx hb dL_isNextSo_257 (by decide) (fun c_113 => ?_) (fun c_113 => ?_)
                                                  · have f_114 : ¬ (0 : Int) = (0 : Int) := fun z => c_113 ((c_eq (nI_toInt (n := 0) (by omega)) rfl).mpr z)
                                                    exfalso; omega
                                                  · have f_115 : (0 : Int) = (0 : Int) := (c_eq (nI_toInt (n := 0) (by omega)) rfl).mp c_113
                                                    refine lv_iconst (v := nI (1)) hx hb dL_isNextSo_260 (by decide) ?_
                                                    refine lv_goto (tgt := 265) hx hb dL_isNextSo_261 (by decide) ?_
                                                    refine lv_istore (lv' := [(10, .int (nI (1))), (11, .int (nI (0))), (0, .ref (a 0)), (1, .int (nI (0))), (2, .ref oa), (3, .int (nI (COM (sD v) (sT v) (sBu v)))), (4, .int (nI (BITS v))), (5, .int (nI (ABM (sD v) (sT v) (COM (sD v) (sT v) (sBu v)) 4))), (6, .int (nI (sBi v))), (7, .int (nI (sPi v))), (8, .int (iI (sZ (fun j => ((sT v j - sG v j).natAbs : Int)) 64))), (9, .int (nI (0)))]) hx hb dL_isNextSo_265 hl (by decide) rfl (fun ls hl => ?_)
                                                    refine lv_iload hx hb dL_isNextSo_267 (lv_at hl 0 rfl) ?_
                                                    refine lv_if_eq (tgt := 310) hx hb dL_isNextSo_269 (by decide) (fun c_116 => ?_) (fun c_116 => ?_)
                                                    · have f_117 : (1 : Int) = (0 : Int) := (c_eq (nI_toInt (n := 1) (by omega)) rfl).mp c_116
                                                      exfalso; omega
                                                    · have f_118 : ¬ (1 : Int) = (0 : Int) := fun z => c_116 ((c_eq (nI_toInt (n := 1) (by omega)) rfl).mpr z)
                                                      refine lv_aload_n hx hb dL_isNextSo_272 rfl (lv_at hl 2 rfl) ?_
                                                      refine kPreI (va_runV (As := []) (rest := []) ⟨hx, hb, hml, hown, hts⟩ (o_undo a (sndV 0 v mo) j1 (jH j) v hj.2.2.1 hj1 hjh1 (PP_l hP) ((pre_D hD).weaken (fun _ _ _ h => hLo _ h))) (cwV 0 hts gL_isNextSo_X8_undo rfl rfl rfl (by decide +kernel) ⟨(Nat.le_of_ble_eq_true rfl), (Nat.le_of_ble_eq_true rfl)⟩) (preV hC hS hLo (oW_obj (PP_l hP)) (ci := 7) (q0 := 0) rfl rfl) rfl rfl hl.1 rfl (lv_room (Nat.le_of_ble_eq_true rfl)) dL_isNextSo_273 ⟨(Nat.le_of_ble_eq_true rfl), (Nat.le_of_ble_eq_true rfl)⟩) hP hD hS hA (fun _ => oW_fst) (fun r_121 u_119 H locs q_120 hP hD hS => ?_)
                                                      have hP : PP G (oW G a v u_119 ++ ouW G oa of1) H := hP
                                                      have hD : va_D A (oW G a v u_119 ++ ouW G oa of1) := hD
                                                      have hjj := q_120.2.1
                                                      have hje := q_120.2.2
                                                      refine topE (v' := nI (min ((jH j).2.1 + 1) 6 - 1)) (q_120.1) ?_
                                                      refine lv_if_lt (tgt := 310) hx hb dL_isNextSo_276 (by decide) (fun c_122 => ?_) (fun c_122 => ?_)
                                                      · have f_123 : ((min ((jH j).2.1 + 1) 6 - 1 : Nat) : Int) < (0 : Int) := (c_lt (nI_toInt (n := min ((jH j).2.1 + 1) 6 - 1) (by omega)) rfl).mp c_122
                                                        exfalso; omega
                                                      · have f_124 : ¬ ((min ((jH j).2.1 + 1) 6 - 1 : Nat) : Int) < (0 : Int) := fun z => c_122 ((c_lt (nI_toInt (n := min ((jH j).2.1 + 1) 6 - 1) (by omega)) rfl).mpr z)
                                                        refine lv_aload_n hx hb dL_isNextSo_279 rfl (lv_at hl 2 rfl) ?_
                                                        refine kPi (va_runV (As := []) (rest := []) ⟨hx, hb, hml, hown, hts⟩ (c_X8_pictureCount a v (oW_now (PP_l hP))) (cwV 0 hts gL_isNextSo_X8_pictureCount rfl rfl rfl (by decide +kernel) ⟨(Nat.le_of_ble_eq_true rfl), (Nat.le_of_ble_eq_true rfl)⟩) (preV hC hS hLo (oW_obj (PP_l hP)) (ci := 7) (q0 := 0) rfl rfl) rfl rfl hl.1 rfl (lv_room (Nat.le_of_ble_eq_true rfl)) dL_isNextSo_280 ⟨(Nat.le_of_ble_eq_true rfl), (Nat.le_of_ble_eq_true rfl)⟩) hS (fun locs hS => ?_)
                                                        refine topE (v' := nI (sPi v)) (rfl) ?_
                                                        refine lv_iload hx hb dL_isNextSo_283 (lv_at hl 9 rfl) ?_
                                                        refine lv_icmp_ne (tgt := 310) hx hb dL_isNextSo_285 (by decide) (fun c_125 => ?_) (fun c_125 => ?_)
                                                        · have f_126 := c_125
                                                          exact absurd rfl f_126
                                                        · have f_127 := c_125
                                                          refine lv_aload_n hx hb dL_isNextSo_288 rfl (lv_at hl 2 rfl) ?_
                                                          refine kPi (va_runV (As := []) (rest := []) ⟨hx, hb, hml, hown, hts⟩ (c_X8_drift a v hd ht hg (oW_now (PP_l hP))) (cwV 0 hts gL_isNextSo_X8_drift rfl rfl rfl (by decide +kernel) ⟨(Nat.le_of_ble_eq_true rfl), (Nat.le_of_ble_eq_true rfl)⟩) (preV hC hS hLo (oW_obj (PP_l hP)) (ci := 7) (q0 := 0) rfl rfl) rfl rfl hl.1 rfl (lv_room (Nat.le_of_ble_eq_true rfl)) dL_isNextSo_289 ⟨(Nat.le_of_ble_eq_true rfl), (Nat.le_of_ble_eq_true rfl)⟩) hS (fun locs hS => ?_)
                                                          refine topE (v' := iI (sZ (fun j => ((sT v j - sG v j).natAbs : Int)) 64)) (rfl) ?_
                                                          refine lv_iload hx hb dL_isNextSo_292 (lv_at hl 10 rfl) ?_
                                                          refine lv_icmp_ne (tgt := 310) hx hb dL_isNextSo_294 (by decide) (fun c_128 => ?_) (fun c_128 => ?_)
                                                          · have f_129 := c_128
                                                            exact absurd rfl f_129
                                                          · have f_130 := c_128
                                                            refine lv_aload_n hx hb dL_isNextSo_297 rfl (lv_at hl 2 rfl) ?_
                                                            refine kPreI (va_runV (As := []) (rest := []) ⟨hx, hb, hml, hown, hts⟩ (o_bitsNext a v u_119 hv0 (by omega) hjj (PP_l hP) ((pre_D hD).weaken (fun _ _ _ h => hLo _ h))) (cwV 0 hts gL_isNextSo_X8_bitsNext rfl rfl rfl (by decide +kernel) ⟨(Nat.le_of_ble_eq_true rfl), (Nat.le_of_ble_eq_true rfl)⟩) (preV hC hS hLo (oW_obj (PP_l hP)) (ci := 7) (q0 := 0) rfl rfl) rfl rfl hl.1 rfl (lv_room (Nat.le_of_ble_eq_true rfl)) dL_isNextSo_298 ⟨(Nat.le_of_ble_eq_true rfl), (Nat.le_of_ble_eq_true rfl)⟩) hP hD hS hA (fun _ => oW_fst) (fun r_133 u_131 H locs q_132 hP hD hS => ?_)
                                                            have hP : PP G (oW G a v u_131 ++ ouW G oa of1) H := hP
                                                            have hD : va_D A (oW G a v u_131 ++ ouW G oa of1) := hD
                                                            have hje := q_132.2.2.trans hje
                                                            have hjj := q_132.2.1
                                                            refine topE (v' := nI (BITS v)) (q_132.1) ?_
                                                            refine lv_iload hx hb dL_isNextSo_301 (lv_at hl 6 rfl) ?_
                                                            refine lv_icmp_ne (tgt := 310) hx hb dL_isNextSo_303 (by decide) (fun c_134 => ?_) (fun c_134 => ?_)
                                                            · have f_135 := c_134
                                                              exact absurd rfl f_135
                                                            · have f_136 := c_134
                                                              refine lv_iconst (v := nI (1)) hx hb dL_isNextSo_306 (by decide) ?_
                                                              refine lv_goto (tgt := 311) hx hb dL_isNextSo_307 (by decide) ?_
                                                              exact xMi (G := G) (post := (fun (r : Int32) (u : JT × (Nat → Int32)) => r = nI 1 ∧ OKJ u.1 ∧ jH u.1 = rbH (jH j) v)) (w1 := (fun (u : JT × (Nat → Int32)) => oW G a v u.1 ++ ouW G oa u.2)) ((u_131, of1)) hx hb hr hlocks hP hS (by exact ⟨rfl, hjj, hje⟩) (by exact rfl) dL_isNextSo_311
                                      · have f_137 : ¬ (0 : Int) = (0 : Int) := fun z => c_54 ((c_eq (nI_toInt (n := 0) (by omega)) rfl).mpr z)
                                        exfalso; omega
                                    · have f_138 : ¬ (1 : Int) < ((COM (sD v) (sT v) (sBu v) : Nat) : Int) := fun z => c_52 ((c_lt (nI_toInt (n := 1) (by omega)) (nI_toInt (n := COM (sD v) (sT v) (sBu v)) (by omega))).mpr z)
                                      refine lv_aload_n hx hb dL_isNextSo_199 rfl (lv_at hl 2 rfl) ?_
                                      refine kPi (va_runV (As := []) (rest := []) ⟨hx, hb, hml, hown, hts⟩ (c_X8_error a (sndV 0 v mo) hvs.1 hvs.2.1 hvs.2.2.1 (oW_now (PP_l hP))) (cwV 0 hts gL_isNextSo_X8_error rfl rfl rfl (by decide +kernel) ⟨(Nat.le_of_ble_eq_true rfl), (Nat.le_of_ble_eq_true rfl)⟩) (preV hC hS hLo (oW_obj (PP_l hP)) (ci := 7) (q0 := 0) rfl rfl) rfl rfl hl.1 rfl (lv_room (Nat.le_of_ble_eq_true rfl)) dL_isNextSo_200 ⟨(Nat.le_of_ble_eq_true rfl), (Nat.le_of_ble_eq_true rfl)⟩) hS (fun locs hS => ?_)
                                      refine topE (v' := nI (0)) ((congrArg iI (snd_err (by omega))).trans (nI_i 0).symm) ?_
                                      refine lv_if_ne (tgt := 226) hx hb dL_isNextSo_203 (by decide) (fun c_139 => ?_) (fun c_139 => ?_)
                                      · have f_140 : ¬ (0 : Int) = (0 : Int) := fun z => c_139 ((c_eq (nI_toInt (n := 0) (by omega)) rfl).mpr z)
                                        exfalso; omega
                                      · have f_141 : (0 : Int) = (0 : Int) := (c_eq (nI_toInt (n := 0) (by omega)) rfl).mp c_139
                                        refine lv_iload hx hb dL_isNextSo_206 (lv_at hl 11 rfl) ?_
                                        refine lv_if_eq (tgt := 222) hx hb dL_isNextSo_208 (by decide) (fun c_142 => ?_) (fun c_142 => ?_)
                                        · have f_143 : (0 : Int) = (0 : Int) := (c_eq (nI_toInt (n := 0) (by omega)) rfl).mp c_142
                                          refine lv_iconst (v := nI (1)) hx hb dL_isNextSo_222 (by decide) ?_
                                          refine lv_goto (tgt := 227) hx hb dL_isNextSo_223 (by decide) ?_
                                          refine lv_istore (lv' := [(10, .int (nI (1))), (11, .int (nI (0))), (0, .ref (a 0)), (1, .int (nI (0))), (2, .ref oa), (3, .int (nI (COM (sD v) (sT v) (sBu v)))), (4, .int (nI (BITS v))), (5, .int (nI (ABM (sD v) (sT v) (COM (sD v) (sT v) (sBu v)) 4))), (6, .int (nI (sBi v))), (7, .int (nI (sPi v))), (8, .int (iI (sZ (fun j => ((sT v j - sG v j).natAbs : Int)) 64))), (9, .int (nI (0)))]) hx hb dL_isNextSo_227 hl (by decide) rfl (fun ls hl => ?_)
                                          refine lv_iload hx hb dL_isNextSo_229 (lv_at hl 11 rfl) ?_
                                          refine lv_if_ne (tgt := 267) hx hb dL_isNextSo_231 (by decide) (fun c_144 => ?_) (fun c_144 => ?_)
                                          · have f_145 : ¬ (0 : Int) = (0 : Int) := fun z => c_144 ((c_eq (nI_toInt (n := 0) (by omega)) rfl).mpr z)
                                            exfalso; omega
                                          · have f_146 : (0 : Int) = (0 : Int) := (c_eq (nI_toInt (n := 0) (by omega)) rfl).mp c_144
                                            refine lv_iload_n hx hb dL_isNextSo_234 rfl (lv_at hl 5 rfl) ?_
                                            refine lv_iconst (v := nI (1)) hx hb dL_isNextSo_235 (by decide) ?_
                                            refine lv_icmp_ne (tgt := 267) hx hb dL_isNextSo_236 (by decide) (fun c_147 => ?_) (fun c_147 => ?_)
                                            · have f_148 : ¬ ((COM (sD v) (sT v) (sBu v) : Nat) : Int) = (1 : Int) := fun z => c_147 ((c_eq (nI_toInt (n := COM (sD v) (sT v) (sBu v)) (by omega)) (nI_toInt (n := 1) (by omega))).mpr z)
                                              refine lv_iload hx hb dL_isNextSo_267 (lv_at hl 0 rfl) ?_
                                              refine lv_if_eq (tgt := 310) hx hb dL_isNextSo_269 (by decide) (fun c_149 => ?_) (fun c_149 => ?_)
                                              · have f_150 : (1 : Int) = (0 : Int) := (c_eq (nI_toInt (n := 1) (by omega)) rfl).mp c_149
                                                exfalso; omega
                                              · have f_151 : ¬ (1 : Int) = (0 : Int) := fun z => c_149 ((c_eq (nI_toInt (n := 1) (by omega)) rfl).mpr z)
                                                refine lv_aload_n hx hb dL_isNextSo_272 rfl (lv_at hl 2 rfl) ?_
                                                refine kPreI (va_runV (As := []) (rest := []) ⟨hx, hb, hml, hown, hts⟩ (o_undo a (sndV 0 v mo) j1 (jH j) v hj.2.2.1 hj1 hjh1 (PP_l hP) ((pre_D hD).weaken (fun _ _ _ h => hLo _ h))) (cwV 0 hts gL_isNextSo_X8_undo rfl rfl rfl (by decide +kernel) ⟨(Nat.le_of_ble_eq_true rfl), (Nat.le_of_ble_eq_true rfl)⟩) (preV hC hS hLo (oW_obj (PP_l hP)) (ci := 7) (q0 := 0) rfl rfl) rfl rfl hl.1 rfl (lv_room (Nat.le_of_ble_eq_true rfl)) dL_isNextSo_273 ⟨(Nat.le_of_ble_eq_true rfl), (Nat.le_of_ble_eq_true rfl)⟩) hP hD hS hA (fun _ => oW_fst) (fun r_154 u_152 H locs q_153 hP hD hS => ?_)
                                                have hP : PP G (oW G a v u_152 ++ ouW G oa of1) H := hP
                                                have hD : va_D A (oW G a v u_152 ++ ouW G oa of1) := hD
                                                have hjj := q_153.2.1
                                                have hje := q_153.2.2
                                                refine topE (v' := nI (min ((jH j).2.1 + 1) 6 - 1)) (q_153.1) ?_
                                                refine lv_if_lt (tgt := 310) hx hb dL_isNextSo_276 (by decide) (fun c_155 => ?_) (fun c_155 => ?_)
                                                · have f_156 : ((min ((jH j).2.1 + 1) 6 - 1 : Nat) : Int) < (0 : Int) := (c_lt (nI_toInt (n := min ((jH j).2.1 + 1) 6 - 1) (by omega)) rfl).mp c_155
                                                  exfalso; omega
                                                · have f_157 : ¬ ((min ((jH j).2.1 + 1) 6 - 1 : Nat) : Int) < (0 : Int) := fun z => c_155 ((c_lt (nI_toInt (n := min ((jH j).2.1 + 1) 6 - 1) (by omega)) rfl).mpr z)
                                                  refine lv_aload_n hx hb dL_isNextSo_279 rfl (lv_at hl 2 rfl) ?_
                                                  refine kPi (va_runV (As := []) (rest := []) ⟨hx, hb, hml, hown, hts⟩ (c_X8_pictureCount a v (oW_now (PP_l hP))) (cwV 0 hts gL_isNextSo_X8_pictureCount rfl rfl rfl (by decide +kernel) ⟨(Nat.le_of_ble_eq_true rfl), (Nat.le_of_ble_eq_true rfl)⟩) (preV hC hS hLo (oW_obj (PP_l hP)) (ci := 7) (q0 := 0) rfl rfl) rfl rfl hl.1 rfl (lv_room (Nat.le_of_ble_eq_true rfl)) dL_isNextSo_280 ⟨(Nat.le_of_ble_eq_true rfl), (Nat.le_of_ble_eq_true rfl)⟩) hS (fun locs hS => ?_)
                                                  refine topE (v' := nI (sPi v)) (rfl) ?_
                                                  refine lv_iload hx hb dL_isNextSo_283 (lv_at hl 9 rfl) ?_
                                                  refine lv_icmp_ne (tgt := 310) hx hb dL_isNextSo_285 (by decide) (fun c_158 => ?_) (fun c_158 => ?_)
                                                  · have f_159 := c_158
                                                    exact absurd rfl f_159
                                                  · have f_160 := c_158
                                                    refine lv_aload_n hx hb dL_isNextSo_288 rfl (lv_at hl 2 rfl) ?_
                                                    refine kPi (va_runV (As := []) (rest := []) ⟨hx, hb, hml, hown, hts⟩ (c_X8_drift a v hd ht hg (oW_now (PP_l hP))) (cwV 0 hts gL_isNextSo_X8_drift rfl rfl rfl (by decide +kernel) ⟨(Nat.le_of_ble_eq_true rfl), (Nat.le_of_ble_eq_true rfl)⟩) (preV hC hS hLo (oW_obj (PP_l hP)) (ci := 7) (q0 := 0) rfl rfl) rfl rfl hl.1 rfl (lv_room (Nat.le_of_ble_eq_true rfl)) dL_isNextSo_289 ⟨(Nat.le_of_ble_eq_true rfl), (Nat.le_of_ble_eq_true rfl)⟩) hS (fun locs hS => ?_)
                                                    refine topE (v' := iI (sZ (fun j => ((sT v j - sG v j).natAbs : Int)) 64)) (rfl) ?_
                                                    refine lv_iload hx hb dL_isNextSo_292 (lv_at hl 10 rfl) ?_
                                                    refine lv_icmp_ne (tgt := 310) hx hb dL_isNextSo_294 (by decide) (fun c_161 => ?_) (fun c_161 => ?_)
                                                    · have f_162 := c_161
                                                      exact absurd rfl f_162
                                                    · have f_163 := c_161
                                                      refine lv_aload_n hx hb dL_isNextSo_297 rfl (lv_at hl 2 rfl) ?_
                                                      refine kPreI (va_runV (As := []) (rest := []) ⟨hx, hb, hml, hown, hts⟩ (o_bitsNext a v u_152 hv0 (by omega) hjj (PP_l hP) ((pre_D hD).weaken (fun _ _ _ h => hLo _ h))) (cwV 0 hts gL_isNextSo_X8_bitsNext rfl rfl rfl (by decide +kernel) ⟨(Nat.le_of_ble_eq_true rfl), (Nat.le_of_ble_eq_true rfl)⟩) (preV hC hS hLo (oW_obj (PP_l hP)) (ci := 7) (q0 := 0) rfl rfl) rfl rfl hl.1 rfl (lv_room (Nat.le_of_ble_eq_true rfl)) dL_isNextSo_298 ⟨(Nat.le_of_ble_eq_true rfl), (Nat.le_of_ble_eq_true rfl)⟩) hP hD hS hA (fun _ => oW_fst) (fun r_166 u_164 H locs q_165 hP hD hS => ?_)
                                                      have hP : PP G (oW G a v u_164 ++ ouW G oa of1) H := hP
                                                      have hD : va_D A (oW G a v u_164 ++ ouW G oa of1) := hD
                                                      have hje := q_165.2.2.trans hje
                                                      have hjj := q_165.2.1
                                                      refine topE (v' := nI (BITS v)) (q_165.1) ?_
                                                      refine lv_iload hx hb dL_isNextSo_301 (lv_at hl 6 rfl) ?_
                                                      refine lv_icmp_ne (tgt := 310) hx hb dL_isNextSo_303 (by decide) (fun c_167 => ?_) (fun c_167 => ?_)
                                                      · have f_168 := c_167
                                                        exact absurd rfl f_168
                                                      · have f_169 := c_167
                                                        refine lv_iconst (v := nI (1)) hx hb dL_isNextSo_306 (by decide) ?_
                                                        refine lv_goto (tgt := 311) hx hb dL_isNextSo_307 (by decide) ?_
                                                        exact xMi (G := G) (post := (fun (r : Int32) (u : JT × (Nat → Int32)) => r = nI 1 ∧ OKJ u.1 ∧ jH u.1 = rbH (jH j) v)) (w1 := (fun (u : JT × (Nat → Int32)) => oW G a v u.1 ++ ouW G oa u.2)) ((u_164, of1)) hx hb hr hlocks hP hS (by exact ⟨rfl, hjj, hje⟩) (by exact rfl) dL_isNextSo_311
                                            · have f_170 : ((COM (sD v) (sT v) (sBu v) : Nat) : Int) = (1 : Int) := (c_eq (nI_toInt (n := COM (sD v) (sT v) (sBu v)) (by omega)) (nI_toInt (n := 1) (by omega))).mp c_147
                                              refine lv_iload_n hx hb dL_isNextSo_239 rfl (lv_at hl 3 rfl) ?_
                                              refine lv_if_ne (tgt := 267) hx hb dL_isNextSo_240 (by decide) (fun c_171 => ?_) (fun c_171 => ?_)
                                              · have f_172 : ¬ (0 : Int) = (0 : Int) := fun z => c_171 ((c_eq (nI_toInt (n := 0) (by omega)) rfl).mpr z)
                                                exfalso; omega
                                              · have f_173 : (0 : Int) = (0 : Int) := (c_eq (nI_toInt (n := 0) (by omega)) rfl).mp c_171
                                                refine lv_iload hx hb dL_isNextSo_243 (lv_at hl 10 rfl) ?_
                                                refine lv_if_ne (tgt := 267) hx hb dL_isNextSo_245 (by decide) (fun c_174 => ?_) (fun c_174 => ?_)
                                                · have f_175 : ¬ (sZ (fun j => ((sT v j - sG v j).natAbs : Int)) 64) = (0 : Int) := fun z => c_174 ((c_eq (iI_toInt (by omega) (by omega)) rfl).mpr z)
                                                  refine lv_iload hx hb dL_isNextSo_267 (lv_at hl 0 rfl) ?_
                                                  refine lv_if_eq (tgt := 310) hx hb dL_isNextSo_269 (by decide) (fun c_176 => ?_) (fun c_176 => ?_)
                                                  · have f_177 : (1 : Int) = (0 : Int) := (c_eq (nI_toInt (n := 1) (by omega)) rfl).mp c_176
                                                    exfalso; omega
                                                  · have f_178 : ¬ (1 : Int) = (0 : Int) := fun z => c_176 ((c_eq (nI_toInt (n := 1) (by omega)) rfl).mpr z)
                                                    refine lv_aload_n hx hb dL_isNextSo_272 rfl (lv_at hl 2 rfl) ?_
                                                    refine kPreI (va_runV (As := []) (rest := []) ⟨hx, hb, hml, hown, hts⟩ (o_undo a (sndV 0 v mo) j1 (jH j) v hj.2.2.1 hj1 hjh1 (PP_l hP) ((pre_D hD).weaken (fun _ _ _ h => hLo _ h))) (cwV 0 hts gL_isNextSo_X8_undo rfl rfl rfl (by decide +kernel) ⟨(Nat.le_of_ble_eq_true rfl), (Nat.le_of_ble_eq_true rfl)⟩) (preV hC hS hLo (oW_obj (PP_l hP)) (ci := 7) (q0 := 0) rfl rfl) rfl rfl hl.1 rfl (lv_room (Nat.le_of_ble_eq_true rfl)) dL_isNextSo_273 ⟨(Nat.le_of_ble_eq_true rfl), (Nat.le_of_ble_eq_true rfl)⟩) hP hD hS hA (fun _ => oW_fst) (fun r_181 u_179 H locs q_180 hP hD hS => ?_)
                                                    have hP : PP G (oW G a v u_179 ++ ouW G oa of1) H := hP
                                                    have hD : va_D A (oW G a v u_179 ++ ouW G oa of1) := hD
                                                    have hjj := q_180.2.1
                                                    have hje := q_180.2.2
                                                    refine topE (v' := nI (min ((jH j).2.1 + 1) 6 - 1)) (q_180.1) ?_
                                                    refine lv_if_lt (tgt := 310) hx hb dL_isNextSo_276 (by decide) (fun c_182 => ?_) (fun c_182 => ?_)
                                                    · have f_183 : ((min ((jH j).2.1 + 1) 6 - 1 : Nat) : Int) < (0 : Int) := (c_lt (nI_toInt (n := min ((jH j).2.1 + 1) 6 - 1) (by omega)) rfl).mp c_182
                                                      exfalso; omega
                                                    · have f_184 : ¬ ((min ((jH j).2.1 + 1) 6 - 1 : Nat) : Int) < (0 : Int) := fun z => c_182 ((c_lt (nI_toInt (n := min ((jH j).2.1 + 1) 6 - 1) (by omega)) rfl).mpr z)
                                                      refine lv_aload_n hx hb dL_isNextSo_279 rfl (lv_at hl 2 rfl) ?_
                                                      refine kPi (va_runV (As := []) (rest := []) ⟨hx, hb, hml, hown, hts⟩ (c_X8_pictureCount a v (oW_now (PP_l hP))) (cwV 0 hts gL_isNextSo_X8_pictureCount rfl rfl rfl (by decide +kernel) ⟨(Nat.le_of_ble_eq_true rfl), (Nat.le_of_ble_eq_true rfl)⟩) (preV hC hS hLo (oW_obj (PP_l hP)) (ci := 7) (q0 := 0) rfl rfl) rfl rfl hl.1 rfl (lv_room (Nat.le_of_ble_eq_true rfl)) dL_isNextSo_280 ⟨(Nat.le_of_ble_eq_true rfl), (Nat.le_of_ble_eq_true rfl)⟩) hS (fun locs hS => ?_)
                                                      refine topE (v' := nI (sPi v)) (rfl) ?_
                                                      refine lv_iload hx hb dL_isNextSo_283 (lv_at hl 9 rfl) ?_
                                                      refine lv_icmp_ne (tgt := 310) hx hb dL_isNextSo_285 (by decide) (fun c_185 => ?_) (fun c_185 => ?_)
                                                      · have f_186 := c_185
                                                        exact absurd rfl f_186
                                                      · have f_187 := c_185
                                                        refine lv_aload_n hx hb dL_isNextSo_288 rfl (lv_at hl 2 rfl) ?_
                                                        refine kPi (va_runV (As := []) (rest := []) ⟨hx, hb, hml, hown, hts⟩ (c_X8_drift a v hd ht hg (oW_now (PP_l hP))) (cwV 0 hts gL_isNextSo_X8_drift rfl rfl rfl (by decide +kernel) ⟨(Nat.le_of_ble_eq_true rfl), (Nat.le_of_ble_eq_true rfl)⟩) (preV hC hS hLo (oW_obj (PP_l hP)) (ci := 7) (q0 := 0) rfl rfl) rfl rfl hl.1 rfl (lv_room (Nat.le_of_ble_eq_true rfl)) dL_isNextSo_289 ⟨(Nat.le_of_ble_eq_true rfl), (Nat.le_of_ble_eq_true rfl)⟩) hS (fun locs hS => ?_)
                                                        refine topE (v' := iI (sZ (fun j => ((sT v j - sG v j).natAbs : Int)) 64)) (rfl) ?_
                                                        refine lv_iload hx hb dL_isNextSo_292 (lv_at hl 10 rfl) ?_
                                                        refine lv_icmp_ne (tgt := 310) hx hb dL_isNextSo_294 (by decide) (fun c_188 => ?_) (fun c_188 => ?_)
                                                        · have f_189 := c_188
                                                          exact absurd rfl f_189
                                                        · have f_190 := c_188
                                                          refine lv_aload_n hx hb dL_isNextSo_297 rfl (lv_at hl 2 rfl) ?_
                                                          refine kPreI (va_runV (As := []) (rest := []) ⟨hx, hb, hml, hown, hts⟩ (o_bitsNext a v u_179 hv0 (by omega) hjj (PP_l hP) ((pre_D hD).weaken (fun _ _ _ h => hLo _ h))) (cwV 0 hts gL_isNextSo_X8_bitsNext rfl rfl rfl (by decide +kernel) ⟨(Nat.le_of_ble_eq_true rfl), (Nat.le_of_ble_eq_true rfl)⟩) (preV hC hS hLo (oW_obj (PP_l hP)) (ci := 7) (q0 := 0) rfl rfl) rfl rfl hl.1 rfl (lv_room (Nat.le_of_ble_eq_true rfl)) dL_isNextSo_298 ⟨(Nat.le_of_ble_eq_true rfl), (Nat.le_of_ble_eq_true rfl)⟩) hP hD hS hA (fun _ => oW_fst) (fun r_193 u_191 H locs q_192 hP hD hS => ?_)
                                                          have hP : PP G (oW G a v u_191 ++ ouW G oa of1) H := hP
                                                          have hD : va_D A (oW G a v u_191 ++ ouW G oa of1) := hD
                                                          have hje := q_192.2.2.trans hje
                                                          have hjj := q_192.2.1
                                                          refine topE (v' := nI (BITS v)) (q_192.1) ?_
                                                          refine lv_iload hx hb dL_isNextSo_301 (lv_at hl 6 rfl) ?_
                                                          refine lv_icmp_ne (tgt := 310) hx hb dL_isNextSo_303 (by decide) (fun c_194 => ?_) (fun c_194 => ?_)
                                                          · have f_195 := c_194
                                                            exact absurd rfl f_195
                                                          · have f_196 := c_194
                                                            refine lv_iconst (v := nI (1)) hx hb dL_isNextSo_306 (by decide) ?_
                                                            refine lv_goto (tgt := 311) hx hb dL_isNextSo_307 (by decide) ?_
                                                            exact xMi (G := G) (post := (fun (r : Int32) (u : JT × (Nat → Int32)) => r = nI 1 ∧ OKJ u.1 ∧ jH u.1 = rbH (jH j) v)) (w1 := (fun (u : JT × (Nat → Int32)) => oW G a v u.1 ++ ouW G oa u.2)) ((u_191, of1)) hx hb hr hlocks hP hS (by exact ⟨rfl, hjj, hje⟩) (by exact rfl) dL_isNextSo_311
                                                · have f_197 : (sZ (fun j => ((sT v j - sG v j).natAbs : Int)) 64) = (0 : Int) := (c_eq (iI_toInt (by omega) (by omega)) rfl).mp c_174
                                                  refine lv_iload hx hb dL_isNextSo_248 (lv_at hl 0 rfl) ?_
                                                  refine lv_if_eq (tgt := 264) hx hb dL_isNextSo_250 (by decide) (fun c_198 => ?_) (fun c_198 => ?_)
                                                  · have f_199 : (1 : Int) = (0 : Int) := (c_eq (nI_toInt (n := 1) (by omega)) rfl).mp c_198
                                                    exfalso; omega
                                                  · have f_200 : ¬ (1 : Int) = (0 : Int) := fun z => c_198 ((c_eq (nI_toInt (n := 1) (by omega)) rfl).mpr z)
                                                    refine lv_aload_n hx hb dL_isNextSo_253 rfl (lv_at hl 2 rfl) ?_
                                                    refine kPi (va_runV (As := []) (rest := []) ⟨hx, hb, hml, hown, hts⟩ (c_X8_drift a (sndV 0 v mo) hvs.1 hvs.2.1 hvs.2.2.1 (oW_now (PP_l hP))) (cwV 0 hts gL_isNextSo_X8_drift rfl rfl rfl (by decide +kernel) ⟨(Nat.le_of_ble_eq_true rfl), (Nat.le_of_ble_eq_true rfl)⟩) (preV hC hS hLo (oW_obj (PP_l hP)) (ci := 7) (q0 := 0) rfl rfl) rfl rfl hl.1 rfl (lv_room (Nat.le_of_ble_eq_true rfl)) dL_isNextSo_254 ⟨(Nat.le_of_ble_eq_true rfl), (Nat.le_of_ble_eq_true rfl)⟩) hS (fun locs hS => ?_)
                                                    refine topE (v' := nI (0)) ((congrArg iI (drf_0 (snd_drf hv0 hkey (drf_e (by assumption))))).trans (nI_i 0).symm) ?_
                                                    refine lv_if_ne (tgt := 264) hx hb dL_isNextSo_257 (by decide) (fun c_201 => ?_) (fun c_201 => ?_)
                                                    · have f_202 : ¬ (0 : Int) = (0 : Int) := fun z => c_201 ((c_eq (nI_toInt (n := 0) (by omega)) rfl).mpr z)
                                                      exfalso; omega
                                                    · have f_203 : (0 : Int) = (0 : Int) := (c_eq (nI_toInt (n := 0) (by omega)) rfl).mp c_201
                                                      refine lv_iconst (v := nI (1)) hx hb dL_isNextSo_260 (by decide) ?_
                                                      refine lv_goto (tgt := 265) hx hb dL_isNextSo_261 (by decide) ?_
                                                      refine lv_istore (lv' := [(10, .int (nI (1))), (11, .int (nI (0))), (0, .ref (a 0)), (1, .int (nI (0))), (2, .ref oa), (3, .int (nI (COM (sD v) (sT v) (sBu v)))), (4, .int (nI (BITS v))), (5, .int (nI (ABM (sD v) (sT v) (COM (sD v) (sT v) (sBu v)) 4))), (6, .int (nI (sBi v))), (7, .int (nI (sPi v))), (8, .int (iI (sZ (fun j => ((sT v j - sG v j).natAbs : Int)) 64))), (9, .int (nI (0)))]) hx hb dL_isNextSo_265 hl (by decide) rfl (fun ls hl => ?_)
                                                      refine lv_iload hx hb dL_isNextSo_267 (lv_at hl 0 rfl) ?_
                                                      refine lv_if_eq (tgt := 310) hx hb dL_isNextSo_269 (by decide) (fun c_204 => ?_) (fun c_204 => ?_)
                                                      · have f_205 : (1 : Int) = (0 : Int) := (c_eq (nI_toInt (n := 1) (by omega)) rfl).mp c_204
                                                        exfalso; omega
                                                      · have f_206 : ¬ (1 : Int) = (0 : Int) := fun z => c_204 ((c_eq (nI_toInt (n := 1) (by omega)) rfl).mpr z)
                                                        refine lv_aload_n hx hb dL_isNextSo_272 rfl (lv_at hl 2 rfl) ?_
                                                        refine kPreI (va_runV (As := []) (rest := []) ⟨hx, hb, hml, hown, hts⟩ (o_undo a (sndV 0 v mo) j1 (jH j) v hj.2.2.1 hj1 hjh1 (PP_l hP) ((pre_D hD).weaken (fun _ _ _ h => hLo _ h))) (cwV 0 hts gL_isNextSo_X8_undo rfl rfl rfl (by decide +kernel) ⟨(Nat.le_of_ble_eq_true rfl), (Nat.le_of_ble_eq_true rfl)⟩) (preV hC hS hLo (oW_obj (PP_l hP)) (ci := 7) (q0 := 0) rfl rfl) rfl rfl hl.1 rfl (lv_room (Nat.le_of_ble_eq_true rfl)) dL_isNextSo_273 ⟨(Nat.le_of_ble_eq_true rfl), (Nat.le_of_ble_eq_true rfl)⟩) hP hD hS hA (fun _ => oW_fst) (fun r_209 u_207 H locs q_208 hP hD hS => ?_)
                                                        have hP : PP G (oW G a v u_207 ++ ouW G oa of1) H := hP
                                                        have hD : va_D A (oW G a v u_207 ++ ouW G oa of1) := hD
                                                        have hjj := q_208.2.1
                                                        have hje := q_208.2.2
                                                        refine topE (v' := nI (min ((jH j).2.1 + 1) 6 - 1)) (q_208.1) ?_
                                                        refine lv_if_lt (tgt := 310) hx hb dL_isNextSo_276 (by decide) (fun c_210 => ?_) (fun c_210 => ?_)
                                                        · have f_211 : ((min ((jH j).2.1 + 1) 6 - 1 : Nat) : Int) < (0 : Int) := (c_lt (nI_toInt (n := min ((jH j).2.1 + 1) 6 - 1) (by omega)) rfl).mp c_210
                                                          exfalso; omega
                                                        · have f_212 : ¬ ((min ((jH j).2.1 + 1) 6 - 1 : Nat) : Int) < (0 : Int) := fun z => c_210 ((c_lt (nI_toInt (n := min ((jH j).2.1 + 1) 6 - 1) (by omega)) rfl).mpr z)
                                                          refine lv_aload_n hx hb dL_isNextSo_279 rfl (lv_at hl 2 rfl) ?_
                                                          refine kPi (va_runV (As := []) (rest := []) ⟨hx, hb, hml, hown, hts⟩ (c_X8_pictureCount a v (oW_now (PP_l hP))) (cwV 0 hts gL_isNextSo_X8_pictureCount rfl rfl rfl (by decide +kernel) ⟨(Nat.le_of_ble_eq_true rfl), (Nat.le_of_ble_eq_true rfl)⟩) (preV hC hS hLo (oW_obj (PP_l hP)) (ci := 7) (q0 := 0) rfl rfl) rfl rfl hl.1 rfl (lv_room (Nat.le_of_ble_eq_true rfl)) dL_isNextSo_280 ⟨(Nat.le_of_ble_eq_true rfl), (Nat.le_of_ble_eq_true rfl)⟩) hS (fun locs hS => ?_)
                                                          refine topE (v' := nI (sPi v)) (rfl) ?_
                                                          refine lv_iload hx hb dL_isNextSo_283 (lv_at hl 9 rfl) ?_
                                                          refine lv_icmp_ne (tgt := 310) hx hb dL_isNextSo_285 (by decide) (fun c_213 => ?_) (fun c_213 => ?_)
                                                          · have f_214 := c_213
                                                            exact absurd rfl f_214
                                                          · have f_215 := c_213
                                                            refine lv_aload_n hx hb dL_isNextSo_288 rfl (lv_at hl 2 rfl) ?_
                                                            refine kPi (va_runV (As := []) (rest := []) ⟨hx, hb, hml, hown, hts⟩ (c_X8_drift a v hd ht hg (oW_now (PP_l hP))) (cwV 0 hts gL_isNextSo_X8_drift rfl rfl rfl (by decide +kernel) ⟨(Nat.le_of_ble_eq_true rfl), (Nat.le_of_ble_eq_true rfl)⟩) (preV hC hS hLo (oW_obj (PP_l hP)) (ci := 7) (q0 := 0) rfl rfl) rfl rfl hl.1 rfl (lv_room (Nat.le_of_ble_eq_true rfl)) dL_isNextSo_289 ⟨(Nat.le_of_ble_eq_true rfl), (Nat.le_of_ble_eq_true rfl)⟩) hS (fun locs hS => ?_)
                                                            refine topE (v' := iI (sZ (fun j => ((sT v j - sG v j).natAbs : Int)) 64)) (rfl) ?_
                                                            refine lv_iload hx hb dL_isNextSo_292 (lv_at hl 10 rfl) ?_
                                                            refine lv_icmp_ne (tgt := 310) hx hb dL_isNextSo_294 (by decide) (fun c_216 => ?_) (fun c_216 => ?_)
                                                            · have f_217 := c_216
                                                              exact absurd rfl f_217
                                                            · have f_218 := c_216
                                                              refine lv_aload_n hx hb dL_isNextSo_297 rfl (lv_at hl 2 rfl) ?_
                                                              refine kPreI (va_runV (As := []) (rest := []) ⟨hx, hb, hml, hown, hts⟩ (o_bitsNext a v u_207 hv0 (by omega) hjj (PP_l hP) ((pre_D hD).weaken (fun _ _ _ h => hLo _ h))) (cwV 0 hts gL_isNextSo_X8_bitsNext rfl rfl rfl (by decide +kernel) ⟨(Nat.le_of_ble_eq_true rfl), (Nat.le_of_ble_eq_true rfl)⟩) (preV hC hS hLo (oW_obj (PP_l hP)) (ci := 7) (q0 := 0) rfl rfl) rfl rfl hl.1 rfl (lv_room (Nat.le_of_ble_eq_true rfl)) dL_isNextSo_298 ⟨(Nat.le_of_ble_eq_true rfl), (Nat.le_of_ble_eq_true rfl)⟩) hP hD hS hA (fun _ => oW_fst) (fun r_221 u_219 H locs q_220 hP hD hS => ?_)
                                                              have hP : PP G (oW G a v u_219 ++ ouW G oa of1) H := hP
                                                              have hD : va_D A (oW G a v u_219 ++ ouW G oa of1) := hD
                                                              have hje := q_220.2.2.trans hje
                                                              have hjj := q_220.2.1
                                                              refine topE (v' := nI (BITS v)) (q_220.1) ?_
                                                              refine lv_iload hx hb dL_isNextSo_301 (lv_at hl 6 rfl) ?_
                                                              refine lv_icmp_ne (tgt := 310) hx hb dL_isNextSo_303 (by decide) (fun c_222 => ?_) (fun c_222 => ?_)
                                                              · have f_223 := c_222
                                                                exact absurd rfl f_223
                                                              · have f_224 := c_222
                                                                refine lv_iconst (v := nI (1)) hx hb dL_isNextSo_306 (by decide) ?_
                                                                refine lv_goto (tgt := 311) hx hb dL_isNextSo_307 (by decide) ?_
                                                                exact xMi (G := G) (post := (fun (r : Int32) (u : JT × (Nat → Int32)) => r = nI 1 ∧ OKJ u.1 ∧ jH u.1 = rbH (jH j) v)) (w1 := (fun (u : JT × (Nat → Int32)) => oW G a v u.1 ++ ouW G oa u.2)) ((u_219, of1)) hx hb hr hlocks hP hS (by exact ⟨rfl, hjj, hje⟩) (by exact rfl) dL_isNextSo_311
                                        · have f_225 : ¬ (0 : Int) = (0 : Int) := fun z => c_142 ((c_eq (nI_toInt (n := 0) (by omega)) rfl).mpr z)
                                          exfalso; omega
                        · have f_226 : ¬ (0 : Int) = (0 : Int) := fun z => c_32 ((c_eq (nI_toInt (n := 0) (by omega)) rfl).mpr z)
                          exfalso; omega
        · have f_227 : ((COM (sD v) (sT v) (sBu v) : Nat) : Int) = (-1) := (c_eq (nI_toInt (n := COM (sD v) (sT v) (sBu v)) (by omega)) (iI_toInt (by omega) (by omega))).mp c_9
          exfalso; omega
      · have f_228 : ¬ (4 : Int) ≤ ((i : Nat) : Int) := fun z => c_7 ((c_le (nI_toInt (n := 4) (by omega)) (nI_toInt (n := i) (by omega))).mpr z)
        refine lv_iload hx hb dL_isNextSo_47 (lv_at hl 5 rfl) ?_
        refine lv_iload hx hb dL_isNextSo_49 (lv_at hl 9 rfl) ?_
        refine lv_if_eq (tgt := 59) hx hb dL_isNextSo_51 (by decide) (fun c_229 => ?_) (fun c_229 => ?_)
        · have f_230 : (0 : Int) = (0 : Int) := (c_eq (nI_toInt (n := 0) (by omega)) rfl).mp c_229
          refine lv_aload_n hx hb dL_isNextSo_59 rfl (lv_at hl 0 rfl) ?_
          refine lv_iload hx hb dL_isNextSo_60 (lv_at hl 10 rfl) ?_
          refine lv_iload_n hx hb dL_isNextSo_62 rfl (lv_at hl 3 rfl) ?_
          refine kPreI (va_runV (As := [.int (nI (i)), .int (nI (COM (sD v) (sT v) (sBu v)))]) (rest := [.int (nI (ABM (sD v) (sT v) (COM (sD v) (sT v) (sBu v)) i))]) ⟨hx, hb, hml, hown, hts⟩ (o_bitsWith a v jj i (COM (sD v) (sT v) (sBu v)) hv0 (by omega) (COM_in _ _ _) hjj (PP_l hP) ((pre_D hD).weaken (fun _ _ _ h => hLo _ h))) (cwV 2 hts gL_isNextSo_X8_bitsWith rfl rfl rfl (by decide +kernel) ⟨(Nat.le_of_ble_eq_true rfl), (Nat.le_of_ble_eq_true rfl)⟩) (preV hC hS hLo (oW_obj (PP_l hP)) (ci := 7) (q0 := 0) rfl rfl) rfl rfl hl.1 rfl (lv_room (Nat.le_of_ble_eq_true rfl)) dL_isNextSo_63 ⟨(Nat.le_of_ble_eq_true rfl), (Nat.le_of_ble_eq_true rfl)⟩) hP hD hS hA (fun _ => oW_fst) (fun r_233 u_231 H locs q_232 hP hD hS => ?_)
          have hP : PP G (oW G a v u_231 ++ ouW G oa of) H := hP
          have hD : va_D A (oW G a v u_231 ++ ouW G oa of) := hD
          have hje := q_232.2.2.trans hje
          have hjj := q_232.2.1
          refine topE (v' := nI (BTM (sD v) (sT v) i (COM (sD v) (sT v) (sBu v)))) (q_232.1) ?_
          refine gAdd (z := nI ((ABM (sD v) (sT v) (COM (sD v) (sT v) (sBu v)) i) + (BTM (sD v) (sT v) i (COM (sD v) (sT v) (sBu v))))) hx hb dL_isNextSo_66 (nI_add _ _) ?_
          refine lv_istore (lv' := [(5, .int (nI ((ABM (sD v) (sT v) (COM (sD v) (sT v) (sBu v)) i) + (BTM (sD v) (sT v) i (COM (sD v) (sT v) (sBu v)))))), (0, .ref (a 0)), (1, .int (nI (0))), (2, .ref oa), (3, .int (nI (COM (sD v) (sT v) (sBu v)))), (4, .int (nI (BITS v))), (6, .int (nI (sBi v))), (7, .int (nI (sPi v))), (8, .int (iI (sZ (fun j => ((sT v j - sG v j).natAbs : Int)) 64))), (9, .int (nI (0))), (10, .int (nI (i)))]) hx hb dL_isNextSo_67 hl (by decide) rfl (fun ls hl => ?_)
          refine lv_iinc (v := nI (i + 1)) (lv' := [(10, .int (nI (i + 1))), (5, .int (nI ((ABM (sD v) (sT v) (COM (sD v) (sT v) (sBu v)) i) + (BTM (sD v) (sT v) i (COM (sD v) (sT v) (sBu v)))))), (0, .ref (a 0)), (1, .int (nI (0))), (2, .ref oa), (3, .int (nI (COM (sD v) (sT v) (sBu v)))), (4, .int (nI (BITS v))), (6, .int (nI (sBi v))), (7, .int (nI (sPi v))), (8, .int (iI (sZ (fun j => ((sT v j - sG v j).natAbs : Int)) 64))), (9, .int (nI (0)))]) hx hb dL_isNextSo_69 hl (k := 10) rfl (inc_p i 1) (by decide) rfl (fun ls hl => ?_)
          refine lv_goto (tgt := 41) hx hb dL_isNextSo_72 (by decide) ?_
          exact ih_41 (i + 1) u_231 (by omega) (by omega) hjj hje H locs ls hP hD hS (lv_sub hl [2, 3, 4, 5, 6, 1, 7, 8, 9, 10, 0] ((lvc rfl (lvc rfl (lvc rfl (lvc rfl (lvc rfl (lvc (congrArg Value.int (rfl)) (lvc rfl (lvc rfl (lvc rfl (lvc rfl (lvc (congrArg Value.int (rfl)) rfl)))))))))))))
        · have f_234 : ¬ (0 : Int) = (0 : Int) := fun z => c_229 ((c_eq (nI_toInt (n := 0) (by omega)) rfl).mpr z)
          exfalso; omega
  exact L_41 (4 + 1) 0 u_4 (Nat.lt_succ_self _) (by omega) hjj hje H locs ls hP hD hS (lv_sub hl [8, 9, 10, 7, 6, 5, 4, 3, 2, 1, 0] (lvc rfl (lvc rfl (lvc rfl (lvc rfl (lvc rfl (lvc (congrArg Value.int (rfl)) (lvc rfl (lvc rfl (lvc rfl (lvc rfl (lvc rfl rfl))))))))))))

set_option maxHeartbeats 4000000 in
set_option maxRecDepth 100000 in
theorem c_L_next_n1 {l : Launch} {G : GT} {H0 : Heap} (a : Nat → Nat) (v : SVT) (j : JT) (oa : Nat) (of : Nat → Int32) (hv : OKS v) (hpc : PIC v) (hpi : sPi v ≤ 900) (hj : OKJ j) (hkey : ¬ sPi v % sKd v = 0) (hfl : l.stackTraces = false) (hP0 : PP G (oW G a v j ++ ouW G oa of) H0) (hB0 : va_D (lo G) (oW G a v j ++ ouW G oa of)) : Met l yL_isNextSo wsL_isNextSo ({ frames := 9, cells := 1, slots := 6, locals := 168 } : Room) (pcX G [.ref (a 0), .int (nI (1)), .ref oa] H0) (qMi G (fun (r : Int32) (u : JT × (Nat → Int32)) => r = nI 1 ∧ OKJ u.1 ∧ jH u.1 = rbH (jH j) v) (fun (u : JT × (Nat → Int32)) => oW G a v u.1 ++ ouW G oa u.2) (oW G a v j ++ ouW G oa of) H0) 1 6 (va_A (oW G a v j ++ ouW G oa of) H0.size) := by
  refine enterNX (cc := cL_isNextSo) (maxL := 12) (ret := some .boolean) (own := RL) (lv := [(0, .ref (a 0)), (1, .int (nI (1))), (2, .ref oa)]) (by decide) rfl rfl rfl (Nat.le_of_ble_eq_true rfl) ?_
  intro pg ev s m below meth c hx hb hr hts hown hlocks hml hnm hH hCX ls hl
  subst hH
  have hC := hCX.1
  have hLo := va_freeB hB0 hC.2.2.2.1
  have hD := hB0.self (sz := s.heap.size)
  have hS : va_S (va_A (oW G a v j ++ ouW G oa of) s.heap.size) s.heap s.heap [] := va_S.rf
  unfold qMi
  generalize hAe : va_A (oW G a v j ++ ouW G oa of) s.heap.size = A at hD hLo hS ⊢
  have hA : ∀ q, s.heap.size ≤ q → A q := fun q h => by rw [← hAe]; exact Or.inr h
  generalize ([] : List Loc) = locs at hS ⊢
  have hP := hP0
  have hv0 := hv
  have hpc0 := hpc
  obtain ⟨hd, ht, hg, hk, hbu, hkd⟩ := hv
  obtain ⟨p1, p2, p3, p4, p5⟩ := hpc
  have hbi := BITS_in v
  have hcm := COM_in (sD v) (sT v) (sBu v)
  have hco : COAR v = (COM (sD v) (sT v) (sBu v) : Int) := if_neg hkey
  have hbk : BITS v = ABM (sD v) (sT v) (COM (sD v) (sT v) (sBu v)) 4 := if_neg hkey
  have hzd : 0 ≤ sZ (fun j => ((sT v j - sG v j).natAbs : Int)) 64 ∧ sZ (fun j => ((sT v j - sG v j).natAbs : Int)) 64 ≤ 15 * ((64 : Nat) : Int) := sZ_in (fun k => by have h1 : 0 ≤ sT v k ∧ sT v k ≤ 15 := ht k; have h2 : 0 ≤ sG v k ∧ sG v k ≤ 15 := hg k; show 0 ≤ ((sT v k - sG v k).natAbs : Int) ∧ ((sT v k - sG v k).natAbs : Int) ≤ 15; omega) 64
  refine lv_aload_n hx hb dL_isNextSo_0 rfl (lv_at hl 0 rfl) ?_
  refine kPreI (va_runV (As := []) (rest := []) ⟨hx, hb, hml, hown, hts⟩ (o_coarsenessNext a v j hv0 (by omega) hj (PP_l hP) ((pre_D hD).weaken (fun _ _ _ h => hLo _ h))) (cwV 0 hts gL_isNextSo_X8_coarsenessNext rfl rfl rfl (by decide +kernel) ⟨(Nat.le_of_ble_eq_true rfl), (Nat.le_of_ble_eq_true rfl)⟩) (preV hC hS hLo (oW_obj (PP_l hP)) (ci := 7) (q0 := 0) rfl rfl) rfl rfl hl.1 rfl (lv_room (Nat.le_of_ble_eq_true rfl)) dL_isNextSo_1 ⟨(Nat.le_of_ble_eq_true rfl), (Nat.le_of_ble_eq_true rfl)⟩) hP hD hS hA (fun _ => oW_fst) (fun r_3 u_1 H locs q_2 hP hD hS => ?_)
  have hP : PP G (oW G a v u_1 ++ ouW G oa of) H := hP
  have hD : va_D A (oW G a v u_1 ++ ouW G oa of) := hD
  have hjj := q_2.2.1
  have hje := q_2.2.2
  refine topE (v' := nI (COM (sD v) (sT v) (sBu v))) (q_2.1.trans (by rw [hco]; exact (nI_i _).symm)) ?_
  refine lv_istore_n (lv' := [(3, .int (nI (COM (sD v) (sT v) (sBu v)))), (0, .ref (a 0)), (1, .int (nI (1))), (2, .ref oa)]) hx hb dL_isNextSo_4 rfl hl (by decide) rfl (fun ls hl => ?_)
  refine lv_aload_n hx hb dL_isNextSo_5 rfl (lv_at hl 1 rfl) ?_
  refine kPreI (va_runV (As := []) (rest := []) ⟨hx, hb, hml, hown, hts⟩ (o_bitsNext a v u_1 hv0 (by omega) hjj (PP_l hP) ((pre_D hD).weaken (fun _ _ _ h => hLo _ h))) (cwV 0 hts gL_isNextSo_X8_bitsNext rfl rfl rfl (by decide +kernel) ⟨(Nat.le_of_ble_eq_true rfl), (Nat.le_of_ble_eq_true rfl)⟩) (preV hC hS hLo (oW_obj (PP_l hP)) (ci := 7) (q0 := 0) rfl rfl) rfl rfl hl.1 rfl (lv_room (Nat.le_of_ble_eq_true rfl)) dL_isNextSo_6 ⟨(Nat.le_of_ble_eq_true rfl), (Nat.le_of_ble_eq_true rfl)⟩) hP hD hS hA (fun _ => oW_fst) (fun r_6 u_4 H locs q_5 hP hD hS => ?_)
  have hP : PP G (oW G a v u_4 ++ ouW G oa of) H := hP
  have hD : va_D A (oW G a v u_4 ++ ouW G oa of) := hD
  have hje := q_5.2.2.trans hje
  have hjj := q_5.2.1
  refine topE (v' := nI (BITS v)) (q_5.1) ?_
  refine lv_istore (lv' := [(4, .int (nI (BITS v))), (3, .int (nI (COM (sD v) (sT v) (sBu v)))), (0, .ref (a 0)), (1, .int (nI (1))), (2, .ref oa)]) hx hb dL_isNextSo_9 hl (by decide) rfl (fun ls hl => ?_)
  refine lv_iconst (v := nI (0)) hx hb dL_isNextSo_11 (by decide) ?_
  refine lv_istore (lv' := [(5, .int (nI (0))), (4, .int (nI (BITS v))), (3, .int (nI (COM (sD v) (sT v) (sBu v)))), (0, .ref (a 0)), (1, .int (nI (1))), (2, .ref oa)]) hx hb dL_isNextSo_12 hl (by decide) rfl (fun ls hl => ?_)
  refine lv_aload_n hx hb dL_isNextSo_14 rfl (lv_at hl 3 rfl) ?_
  refine kPi (va_runV (As := []) (rest := []) ⟨hx, hb, hml, hown, hts⟩ (c_X8_bitCount a v (oW_now (PP_l hP))) (cwV 0 hts gL_isNextSo_X8_bitCount rfl rfl rfl (by decide +kernel) ⟨(Nat.le_of_ble_eq_true rfl), (Nat.le_of_ble_eq_true rfl)⟩) (preV hC hS hLo (oW_obj (PP_l hP)) (ci := 7) (q0 := 0) rfl rfl) rfl rfl hl.1 rfl (lv_room (Nat.le_of_ble_eq_true rfl)) dL_isNextSo_15 ⟨(Nat.le_of_ble_eq_true rfl), (Nat.le_of_ble_eq_true rfl)⟩) hS (fun locs hS => ?_)
  refine topE (v' := nI (sBi v)) (rfl) ?_
  refine lv_istore (lv' := [(6, .int (nI (sBi v))), (5, .int (nI (0))), (4, .int (nI (BITS v))), (3, .int (nI (COM (sD v) (sT v) (sBu v)))), (0, .ref (a 0)), (1, .int (nI (1))), (2, .ref oa)]) hx hb dL_isNextSo_18 hl (by decide) rfl (fun ls hl => ?_)
  refine lv_aload_n hx hb dL_isNextSo_20 rfl (lv_at hl 4 rfl) ?_
  refine kPi (va_runV (As := []) (rest := []) ⟨hx, hb, hml, hown, hts⟩ (c_X8_pictureCount a v (oW_now (PP_l hP))) (cwV 0 hts gL_isNextSo_X8_pictureCount rfl rfl rfl (by decide +kernel) ⟨(Nat.le_of_ble_eq_true rfl), (Nat.le_of_ble_eq_true rfl)⟩) (preV hC hS hLo (oW_obj (PP_l hP)) (ci := 7) (q0 := 0) rfl rfl) rfl rfl hl.1 rfl (lv_room (Nat.le_of_ble_eq_true rfl)) dL_isNextSo_21 ⟨(Nat.le_of_ble_eq_true rfl), (Nat.le_of_ble_eq_true rfl)⟩) hS (fun locs hS => ?_)
  refine topE (v' := nI (sPi v)) (rfl) ?_
  refine lv_istore (lv' := [(7, .int (nI (sPi v))), (6, .int (nI (sBi v))), (5, .int (nI (0))), (4, .int (nI (BITS v))), (3, .int (nI (COM (sD v) (sT v) (sBu v)))), (0, .ref (a 0)), (1, .int (nI (1))), (2, .ref oa)]) hx hb dL_isNextSo_24 hl (by decide) rfl (fun ls hl => ?_)
  refine lv_aload_n hx hb dL_isNextSo_26 rfl (lv_at hl 5 rfl) ?_
  refine kPi (va_runV (As := []) (rest := []) ⟨hx, hb, hml, hown, hts⟩ (c_X8_drift a v hd ht hg (oW_now (PP_l hP))) (cwV 0 hts gL_isNextSo_X8_drift rfl rfl rfl (by decide +kernel) ⟨(Nat.le_of_ble_eq_true rfl), (Nat.le_of_ble_eq_true rfl)⟩) (preV hC hS hLo (oW_obj (PP_l hP)) (ci := 7) (q0 := 0) rfl rfl) rfl rfl hl.1 rfl (lv_room (Nat.le_of_ble_eq_true rfl)) dL_isNextSo_27 ⟨(Nat.le_of_ble_eq_true rfl), (Nat.le_of_ble_eq_true rfl)⟩) hS (fun locs hS => ?_)
  refine topE (v' := iI (sZ (fun j => ((sT v j - sG v j).natAbs : Int)) 64)) (rfl) ?_
  refine lv_istore (lv' := [(8, .int (iI (sZ (fun j => ((sT v j - sG v j).natAbs : Int)) 64))), (7, .int (nI (sPi v))), (6, .int (nI (sBi v))), (5, .int (nI (0))), (4, .int (nI (BITS v))), (3, .int (nI (COM (sD v) (sT v) (sBu v)))), (0, .ref (a 0)), (1, .int (nI (1))), (2, .ref oa)]) hx hb dL_isNextSo_30 hl (by decide) rfl (fun ls hl => ?_)
  refine lv_aload_n hx hb dL_isNextSo_32 rfl (lv_at hl 6 rfl) ?_
  refine kPi (va_runV (As := []) (rest := []) ⟨hx, hb, hml, hown, hts⟩ (c_X8_isKeyNext a v hkd (Nat.le_trans hpi (by decide)) (oW_now (PP_l hP))) (cwV 0 hts gL_isNextSo_X8_isKeyNext rfl rfl rfl (by decide +kernel) ⟨(Nat.le_of_ble_eq_true rfl), (Nat.le_of_ble_eq_true rfl)⟩) (preV hC hS hLo (oW_obj (PP_l hP)) (ci := 7) (q0 := 0) rfl rfl) rfl rfl hl.1 rfl (lv_room (Nat.le_of_ble_eq_true rfl)) dL_isNextSo_33 ⟨(Nat.le_of_ble_eq_true rfl), (Nat.le_of_ble_eq_true rfl)⟩) hS (fun locs hS => ?_)
  refine topE (v' := nI (0)) (bI_f hkey) ?_
  refine lv_istore (lv' := [(9, .int (nI (0))), (8, .int (iI (sZ (fun j => ((sT v j - sG v j).natAbs : Int)) 64))), (7, .int (nI (sPi v))), (6, .int (nI (sBi v))), (5, .int (nI (0))), (4, .int (nI (BITS v))), (3, .int (nI (COM (sD v) (sT v) (sBu v)))), (0, .ref (a 0)), (1, .int (nI (1))), (2, .ref oa)]) hx hb dL_isNextSo_36 hl (by decide) rfl (fun ls hl => ?_)
  refine lv_iconst (v := nI (0)) hx hb dL_isNextSo_38 (by decide) ?_
  refine lv_istore (lv' := [(10, .int (nI (0))), (9, .int (nI (0))), (8, .int (iI (sZ (fun j => ((sT v j - sG v j).natAbs : Int)) 64))), (7, .int (nI (sPi v))), (6, .int (nI (sBi v))), (5, .int (nI (0))), (4, .int (nI (BITS v))), (3, .int (nI (COM (sD v) (sT v) (sBu v)))), (0, .ref (a 0)), (1, .int (nI (1))), (2, .ref oa)]) hx hb dL_isNextSo_39 hl (by decide) rfl (fun ls hl => ?_)
  have L_41 : ∀ (n_41 : Nat) (i : Nat) (jj : JT), 4 - i < n_41 → (i ≤ 4) → (OKJ jj) → (jH jj = jH j) → ∀ (H : Heap) (locs : List Loc) (ls : Array Slot), PP G (oW G a v jj ++ ouW G oa of) H → va_D A (oW G a v jj ++ ouW G oa of) → va_S A s.heap H locs → lv_has ls 12 [(0, .ref (a 0)), (1, .int (nI (1))), (2, .ref oa), (3, .int (nI (COM (sD v) (sT v) (sBu v)))), (4, .int (nI (BITS v))), (5, .int (nI (ABM (sD v) (sT v) (COM (sD v) (sT v) (sBu v)) i))), (6, .int (nI (sBi v))), (7, .int (nI (sPi v))), (8, .int (iI (sZ (fun j => ((sT v j - sG v j).natAbs : Int)) 64))), (9, .int (nI (0))), (10, .int (nI (i)))] → W pg l ev ({ frames := 9, cells := 1, slots := 6, locals := 168 } : Room) s m (([.ref (a 0), .int (nI (1)), .ref oa] : List Value).toArray) below meth c H locs 0 0 (MQ below (va_Qi (fun (r : Int32) (u : JT × (Nat → Int32)) => r = nI 1 ∧ OKJ u.1 ∧ jH u.1 = rbH (jH j) v) (fun (u : JT × (Nat → Int32)) t9 => PP G (oW G a v u.1 ++ ouW G oa u.2) t9.heap) A) (([.ref (a 0), .int (nI (1)), .ref oa] : List Value).toArray) s 1 6 A) (F0 m 41 ls []) := by
    intro n_41
    induction n_41 with
    | zero => intro i jj hn; exact absurd hn (Nat.not_lt_zero _)
    | succ n_41 ih_41 =>
      intro i jj hn_41 hi9 hjj hje H locs ls hP hD hS hl
      refine lv_iload hx hb dL_isNextSo_41 (lv_at hl 10 rfl) ?_
      refine lv_iconst (v := nI (4)) hx hb dL_isNextSo_43 (by decide) ?_
      refine lv_icmp_ge (tgt := 75) hx hb dL_isNextSo_44 (by decide) (fun c_7 => ?_) (fun c_7 => ?_)
      · have f_8 : (4 : Int) ≤ ((i : Nat) : Int) := (c_le (nI_toInt (n := 4) (by omega)) (nI_toInt (n := i) (by omega))).mp c_7
        have e_i : i = 4 := by omega
        replace e_i := e_i.symm
        subst e_i
        refine lv_iload hx hb dL_isNextSo_75 (lv_at hl 9 rfl) ?_
        refine lv_iload_n hx hb dL_isNextSo_77 rfl (lv_at hl 3 rfl) ?_
        refine lv_iconst (v := iI (-1)) hx hb dL_isNextSo_78 (by decide) ?_
        refine lv_icmp_ne (tgt := 86) hx hb dL_isNextSo_79 (by decide) (fun c_9 => ?_) (fun c_9 => ?_)
        · have f_10 : ¬ ((COM (sD v) (sT v) (sBu v) : Nat) : Int) = (-1) := fun z => c_9 ((c_eq (nI_toInt (n := COM (sD v) (sT v) (sBu v)) (by omega)) (iI_toInt (by omega) (by omega))).mpr z)
          refine lv_iconst (v := nI (0)) hx hb dL_isNextSo_86 (by decide) ?_
          refine lv_icmp_ne (tgt := 131) hx hb dL_isNextSo_87 (by decide) (fun c_11 => ?_) (fun c_11 => ?_)
          · have f_12 := c_11
            exact absurd rfl f_12
          · have f_13 := c_11
            refine lv_iload hx hb dL_isNextSo_90 (lv_at hl 4 rfl) ?_
            refine lv_iload hx hb dL_isNextSo_92 (lv_at hl 5 rfl) ?_
            refine lv_icmp_ne (tgt := 131) hx hb dL_isNextSo_94 (by decide) (fun c_14 => ?_) (fun c_14 => ?_)
            · have f_15 : ¬ ((BITS v : Nat) : Int) = ((ABM (sD v) (sT v) (COM (sD v) (sT v) (sBu v)) 4 : Nat) : Int) := fun z => c_14 ((c_eq (nI_toInt (n := BITS v) (by omega)) (nI_toInt (n := ABM (sD v) (sT v) (COM (sD v) (sT v) (sBu v)) 4) (by omega))).mpr z)
              exfalso; omega
            · have f_16 : ((BITS v : Nat) : Int) = ((ABM (sD v) (sT v) (COM (sD v) (sT v) (sBu v)) 4 : Nat) : Int) := (c_eq (nI_toInt (n := BITS v) (by omega)) (nI_toInt (n := ABM (sD v) (sT v) (COM (sD v) (sT v) (sBu v)) 4) (by omega))).mp c_14
              refine lv_iload hx hb dL_isNextSo_97 (lv_at hl 4 rfl) ?_
              refine lv_iconst (v := nI (4)) hx hb dL_isNextSo_99 (by decide) ?_
              refine lv_icmp_lt (tgt := 131) hx hb dL_isNextSo_100 (by decide) (fun c_17 => ?_) (fun c_17 => ?_)
              · have f_18 : ((BITS v : Nat) : Int) < (4 : Int) := (c_lt (nI_toInt (n := BITS v) (by omega)) (nI_toInt (n := 4) (by omega))).mp c_17
                exfalso; omega
              · have f_19 : ¬ ((BITS v : Nat) : Int) < (4 : Int) := fun z => c_17 ((c_lt (nI_toInt (n := BITS v) (by omega)) (nI_toInt (n := 4) (by omega))).mpr z)
                refine lv_iload hx hb dL_isNextSo_103 (lv_at hl 4 rfl) ?_
                refine lv_sipush (v := nI (264)) hx hb dL_isNextSo_105 (by decide) ?_
                refine lv_icmp_gt (tgt := 131) hx hb dL_isNextSo_108 (by decide) (fun c_20 => ?_) (fun c_20 => ?_)
                · have f_21 : (264 : Int) < ((BITS v : Nat) : Int) := (c_lt (nI_toInt (n := 264) (by omega)) (nI_toInt (n := BITS v) (by omega))).mp c_20
                  exfalso; omega
                · have f_22 : ¬ (264 : Int) < ((BITS v : Nat) : Int) := fun z => c_20 ((c_lt (nI_toInt (n := 264) (by omega)) (nI_toInt (n := BITS v) (by omega))).mpr z)
                  refine lv_iload hx hb dL_isNextSo_111 (lv_at hl 9 rfl) ?_
                  refine lv_if_ne (tgt := 127) hx hb dL_isNextSo_113 (by decide) (fun c_23 => ?_) (fun c_23 => ?_)
                  · have f_24 : ¬ (0 : Int) = (0 : Int) := fun z => c_23 ((c_eq (nI_toInt (n := 0) (by omega)) rfl).mpr z)
                    exfalso; omega
                  · have f_25 : (0 : Int) = (0 : Int) := (c_eq (nI_toInt (n := 0) (by omega)) rfl).mp c_23
                    refine lv_iload_n hx hb dL_isNextSo_116 rfl (lv_at hl 3 rfl) ?_
                    refine lv_iconst (v := nI (1)) hx hb dL_isNextSo_117 (by decide) ?_
                    refine lv_icmp_lt (tgt := 131) hx hb dL_isNextSo_118 (by decide) (fun c_26 => ?_) (fun c_26 => ?_)
                    · have f_27 : ((COM (sD v) (sT v) (sBu v) : Nat) : Int) < (1 : Int) := (c_lt (nI_toInt (n := COM (sD v) (sT v) (sBu v)) (by omega)) (nI_toInt (n := 1) (by omega))).mp c_26
                      exfalso; omega
                    · have f_28 : ¬ ((COM (sD v) (sT v) (sBu v) : Nat) : Int) < (1 : Int) := fun z => c_26 ((c_lt (nI_toInt (n := COM (sD v) (sT v) (sBu v)) (by omega)) (nI_toInt (n := 1) (by omega))).mpr z)
                      refine lv_iload_n hx hb dL_isNextSo_121 rfl (lv_at hl 3 rfl) ?_
                      refine lv_bipush (v := nI (8)) hx hb dL_isNextSo_122 (by decide) ?_
                      refine lv_icmp_gt (tgt := 131) hx hb dL_isNextSo_124 (by decide) (fun c_29 => ?_) (fun c_29 => ?_)
                      · have f_30 : (8 : Int) < ((COM (sD v) (sT v) (sBu v) : Nat) : Int) := (c_lt (nI_toInt (n := 8) (by omega)) (nI_toInt (n := COM (sD v) (sT v) (sBu v)) (by omega))).mp c_29
                        exfalso; omega
                      · have f_31 : ¬ (8 : Int) < ((COM (sD v) (sT v) (sBu v) : Nat) : Int) := fun z => c_29 ((c_lt (nI_toInt (n := 8) (by omega)) (nI_toInt (n := COM (sD v) (sT v) (sBu v)) (by omega))).mpr z)
                        refine lv_iconst (v := nI (1)) hx hb dL_isNextSo_127 (by decide) ?_
                        refine lv_goto (tgt := 132) hx hb dL_isNextSo_128 (by decide) ?_
                        refine lv_istore (lv' := [(10, .int (nI (1))), (0, .ref (a 0)), (1, .int (nI (1))), (2, .ref oa), (3, .int (nI (COM (sD v) (sT v) (sBu v)))), (4, .int (nI (BITS v))), (5, .int (nI (ABM (sD v) (sT v) (COM (sD v) (sT v) (sBu v)) 4))), (6, .int (nI (sBi v))), (7, .int (nI (sPi v))), (8, .int (iI (sZ (fun j => ((sT v j - sG v j).natAbs : Int)) 64))), (9, .int (nI (0)))]) hx hb dL_isNextSo_132 hl (by decide) rfl (fun ls hl => ?_)
                        refine lv_aload_n hx hb dL_isNextSo_134 rfl (lv_at hl 1 rfl) ?_
                        refine lv_iconst (v := nI (3)) hx hb dL_isNextSo_135 (by decide) ?_
                        refine lv_iload_n hx hb dL_isNextSo_136 rfl (lv_at hl 2 rfl) ?_
                        refine lv_if_eq (tgt := 144) hx hb dL_isNextSo_137 (by decide) (fun c_32 => ?_) (fun c_32 => ?_)
                        · have f_33 : (1 : Int) = (0 : Int) := (c_eq (nI_toInt (n := 1) (by omega)) rfl).mp c_32
                          exfalso; omega
                        · have f_34 : ¬ (1 : Int) = (0 : Int) := fun z => c_32 ((c_eq (nI_toInt (n := 1) (by omega)) rfl).mpr z)
                          refine lv_iconst (v := nI (1)) hx hb dL_isNextSo_140 (by decide) ?_
                          refine lv_goto (tgt := 145) hx hb dL_isNextSo_141 (by decide) ?_
                          refine lv_iconst (v := nI (0)) hx hb dL_isNextSo_145 (by decide) ?_
                          refine lv_iconst (v := nI (0)) hx hb dL_isNextSo_146 (by decide) ?_
                          refine lv_aload_n hx hb dL_isNextSo_147 rfl (lv_at hl 3 rfl) ?_
                          refine kWi (vx_runSW (As := [.ref (a 0), .int (nI (3)), .int (nI (1)), .int (nI (0)), .int (nI (0)), .ref oa]) (rest := []) ⟨hx, hb, hml, hown, hts⟩ (o_chg_3 a v jj oa of (nI (1)) (nI (0)) (nI (0)) (Or.inr rfl) hv0 (by omega) hjj hfl hP (hD.weaken (fun _ _ _ h => hLo _ h))) (vx_cwSW 6 hts gL_isNextSo_L_changes rfl rfl rfl (by decide +kernel) ⟨(Nat.le_of_ble_eq_true rfl), (Nat.le_of_ble_eq_true rfl)⟩) (preSX hCX hS hLo) rfl rfl hl.1 rfl (lv_room (Nat.le_of_ble_eq_true rfl)) dL_isNextSo_148 ⟨(Nat.le_of_ble_eq_true rfl), (Nat.le_of_ble_eq_true rfl)⟩) hP hD hS hA (fun _ => ou_fst) (fun r_35 u_36 H locs q_37 hP hD hS => ?_)
                          obtain ⟨v1, j1, of1⟩ := u_36
                          obtain ⟨qr, q2, _⟩ := q_37
                          obtain ⟨mo, hmo1, hu1, hj1, hjh1, hof⟩ := q2 rfl
                          have hu1 : v1 = sndV 1 v mo := hu1.trans (by show sndV (nI 1).toInt.toNat v mo = _; rw [show (nI 1).toInt.toNat = 1 by decide])
                          subst hu1
                          have hj1 : OKJ j1 := hj1
                          have hjh1 : jH j1 = rcH (jH j) v := hjh1.trans (by rw [hje])
                          obtain ⟨hvs, hps, hpi1, hbi1⟩ := snd_ok (mo := mo) (lost := 1) hv0 hpc0 (by omega)
                          have hP : PP G (oW G a (sndV 1 v mo) j1 ++ ouW G oa of1) H := hP
                          have hD : va_D A (oW G a (sndV 1 v mo) j1 ++ ouW G oa of1) := hD
                          refine topE (v' := nI 0) qr ?_
                          refine lv_istore (lv' := [(11, .int (nI (0))), (10, .int (nI (1))), (0, .ref (a 0)), (1, .int (nI (1))), (2, .ref oa), (3, .int (nI (COM (sD v) (sT v) (sBu v)))), (4, .int (nI (BITS v))), (5, .int (nI (ABM (sD v) (sT v) (COM (sD v) (sT v) (sBu v)) 4))), (6, .int (nI (sBi v))), (7, .int (nI (sPi v))), (8, .int (iI (sZ (fun j => ((sT v j - sG v j).natAbs : Int)) 64))), (9, .int (nI (0)))]) hx hb dL_isNextSo_151 hl (by decide) rfl (fun ls hl => ?_)
                          refine lv_iload hx hb dL_isNextSo_153 (lv_at hl 1 rfl) ?_
                          refine lv_if_eq (tgt := 226) hx hb dL_isNextSo_155 (by decide) (fun c_38 => ?_) (fun c_38 => ?_)
                          · have f_39 : (1 : Int) = (0 : Int) := (c_eq (nI_toInt (n := 1) (by omega)) rfl).mp c_38
                            exfalso; omega
                          · have f_40 : ¬ (1 : Int) = (0 : Int) := fun z => c_38 ((c_eq (nI_toInt (n := 1) (by omega)) rfl).mpr z)
                            refine lv_iload hx hb dL_isNextSo_158 (lv_at hl 0 rfl) ?_
                            refine lv_if_ne (tgt := 226) hx hb dL_isNextSo_160 (by decide) (fun c_41 => ?_) (fun c_41 => ?_)
                            · have f_42 : ¬ (0 : Int) = (0 : Int) := fun z => c_41 ((c_eq (nI_toInt (n := 0) (by omega)) rfl).mpr z)
                              exfalso; omega
                            · have f_43 : (0 : Int) = (0 : Int) := (c_eq (nI_toInt (n := 0) (by omega)) rfl).mp c_41
                              refine lv_aload_n hx hb dL_isNextSo_163 rfl (lv_at hl 4 rfl) ?_
                              refine lv_iconst (v := nI (0)) hx hb dL_isNextSo_164 (by decide) ?_
                              refine gIald (j := 0) hx hb hC.K (PP_r hP) 0 0 rfl rfl rfl (by decide) (by decide) dL_isNextSo_165 ?_
                              refine topE (v' := nI (BITS v)) (hof) ?_
                              refine lv_iload hx hb dL_isNextSo_166 (lv_at hl 6 rfl) ?_
                              refine lv_icmp_ne (tgt := 226) hx hb dL_isNextSo_168 (by decide) (fun c_44 => ?_) (fun c_44 => ?_)
                              · have f_45 := c_44
                                exact absurd rfl f_45
                              · have f_46 := c_44
                                refine lv_aload_n hx hb dL_isNextSo_171 rfl (lv_at hl 2 rfl) ?_
                                refine kPi (va_runV (As := []) (rest := []) ⟨hx, hb, hml, hown, hts⟩ (c_X8_bitCount a (sndV 1 v mo) (oW_now (PP_l hP))) (cwV 0 hts gL_isNextSo_X8_bitCount rfl rfl rfl (by decide +kernel) ⟨(Nat.le_of_ble_eq_true rfl), (Nat.le_of_ble_eq_true rfl)⟩) (preV hC hS hLo (oW_obj (PP_l hP)) (ci := 7) (q0 := 0) rfl rfl) rfl rfl hl.1 rfl (lv_room (Nat.le_of_ble_eq_true rfl)) dL_isNextSo_172 ⟨(Nat.le_of_ble_eq_true rfl), (Nat.le_of_ble_eq_true rfl)⟩) hS (fun locs hS => ?_)
                                refine topE (v' := nI ((sBi v) + (BITS v))) (congrArg nI hbi1) ?_
                                refine lv_iload hx hb dL_isNextSo_175 (lv_at hl 8 rfl) ?_
                                refine lv_iload hx hb dL_isNextSo_177 (lv_at hl 6 rfl) ?_
                                refine gAdd (z := nI ((sBi v) + (BITS v))) hx hb dL_isNextSo_179 (nI_add _ _) ?_
                                refine lv_icmp_ne (tgt := 226) hx hb dL_isNextSo_180 (by decide) (fun c_47 => ?_) (fun c_47 => ?_)
                                · have f_48 := c_47
                                  exact absurd rfl f_48
                                · have f_49 := c_47
                                  refine lv_aload_n hx hb dL_isNextSo_183 rfl (lv_at hl 2 rfl) ?_
                                  refine kPi (va_runV (As := []) (rest := []) ⟨hx, hb, hml, hown, hts⟩ (c_X8_pictureCount a (sndV 1 v mo) (oW_now (PP_l hP))) (cwV 0 hts gL_isNextSo_X8_pictureCount rfl rfl rfl (by decide +kernel) ⟨(Nat.le_of_ble_eq_true rfl), (Nat.le_of_ble_eq_true rfl)⟩) (preV hC hS hLo (oW_obj (PP_l hP)) (ci := 7) (q0 := 0) rfl rfl) rfl rfl hl.1 rfl (lv_room (Nat.le_of_ble_eq_true rfl)) dL_isNextSo_184 ⟨(Nat.le_of_ble_eq_true rfl), (Nat.le_of_ble_eq_true rfl)⟩) hS (fun locs hS => ?_)
                                  refine topE (v' := nI ((sPi v) + 1)) (congrArg nI hpi1) ?_
                                  refine lv_iload hx hb dL_isNextSo_187 (lv_at hl 9 rfl) ?_
                                  refine lv_iconst (v := nI (1)) hx hb dL_isNextSo_189 (by decide) ?_
                                  refine gAdd (z := nI ((sPi v) + 1)) hx hb dL_isNextSo_190 (nI_add _ _) ?_
                                  refine lv_icmp_ne (tgt := 226) hx hb dL_isNextSo_191 (by decide) (fun c_50 => ?_) (fun c_50 => ?_)
                                  · have f_51 := c_50
                                    exact absurd rfl f_51
                                  · have f_52 := c_50
                                    refine lv_iload_n hx hb dL_isNextSo_194 rfl (lv_at hl 5 rfl) ?_
                                    refine lv_iconst (v := nI (1)) hx hb dL_isNextSo_195 (by decide) ?_
                                    refine lv_icmp_gt (tgt := 206) hx hb dL_isNextSo_196 (by decide) (fun c_53 => ?_) (fun c_53 => ?_)
                                    · have f_54 : (1 : Int) < ((COM (sD v) (sT v) (sBu v) : Nat) : Int) := (c_lt (nI_toInt (n := 1) (by omega)) (nI_toInt (n := COM (sD v) (sT v) (sBu v)) (by omega))).mp c_53
                                      refine lv_iload hx hb dL_isNextSo_206 (lv_at hl 11 rfl) ?_
                                      refine lv_if_eq (tgt := 222) hx hb dL_isNextSo_208 (by decide) (fun c_55 => ?_) (fun c_55 => ?_)
                                      · have f_56 : (0 : Int) = (0 : Int) := (c_eq (nI_toInt (n := 0) (by omega)) rfl).mp c_55
                                        refine lv_iconst (v := nI (1)) hx hb dL_isNextSo_222 (by decide) ?_
                                        refine lv_goto (tgt := 227) hx hb dL_isNextSo_223 (by decide) ?_
                                        refine lv_istore (lv' := [(10, .int (nI (1))), (11, .int (nI (0))), (0, .ref (a 0)), (1, .int (nI (1))), (2, .ref oa), (3, .int (nI (COM (sD v) (sT v) (sBu v)))), (4, .int (nI (BITS v))), (5, .int (nI (ABM (sD v) (sT v) (COM (sD v) (sT v) (sBu v)) 4))), (6, .int (nI (sBi v))), (7, .int (nI (sPi v))), (8, .int (iI (sZ (fun j => ((sT v j - sG v j).natAbs : Int)) 64))), (9, .int (nI (0)))]) hx hb dL_isNextSo_227 hl (by decide) rfl (fun ls hl => ?_)
                                        refine lv_iload hx hb dL_isNextSo_229 (lv_at hl 11 rfl) ?_
                                        refine lv_if_ne (tgt := 267) hx hb dL_isNextSo_231 (by decide) (fun c_57 => ?_) (fun c_57 => ?_)
                                        · have f_58 : ¬ (0 : Int) = (0 : Int) := fun z => c_57 ((c_eq (nI_toInt (n := 0) (by omega)) rfl).mpr z)
                                          exfalso; omega
                                        · have f_59 : (0 : Int) = (0 : Int) := (c_eq (nI_toInt (n := 0) (by omega)) rfl).mp c_57
                                          refine lv_iload_n hx hb dL_isNextSo_234 rfl (lv_at hl 5 rfl) ?_
                                          refine lv_iconst (v := nI (1)) hx hb dL_isNextSo_235 (by decide) ?_
                                          refine lv_icmp_ne (tgt := 267) hx hb dL_isNextSo_236 (by decide) (fun c_60 => ?_) (fun c_60 => ?_)
                                          · have f_61 : ¬ ((COM (sD v) (sT v) (sBu v) : Nat) : Int) = (1 : Int) := fun z => c_60 ((c_eq (nI_toInt (n := COM (sD v) (sT v) (sBu v)) (by omega)) (nI_toInt (n := 1) (by omega))).mpr z)
                                            refine lv_iload hx hb dL_isNextSo_267 (lv_at hl 0 rfl) ?_
                                            refine lv_if_eq (tgt := 310) hx hb dL_isNextSo_269 (by decide) (fun c_62 => ?_) (fun c_62 => ?_)
                                            · have f_63 : (1 : Int) = (0 : Int) := (c_eq (nI_toInt (n := 1) (by omega)) rfl).mp c_62
                                              exfalso; omega
                                            · have f_64 : ¬ (1 : Int) = (0 : Int) := fun z => c_62 ((c_eq (nI_toInt (n := 1) (by omega)) rfl).mpr z)
                                              refine lv_aload_n hx hb dL_isNextSo_272 rfl (lv_at hl 2 rfl) ?_
                                              refine kPreI (va_runV (As := []) (rest := []) ⟨hx, hb, hml, hown, hts⟩ (o_undo a (sndV 1 v mo) j1 (jH j) v hj.2.2.1 hj1 hjh1 (PP_l hP) ((pre_D hD).weaken (fun _ _ _ h => hLo _ h))) (cwV 0 hts gL_isNextSo_X8_undo rfl rfl rfl (by decide +kernel) ⟨(Nat.le_of_ble_eq_true rfl), (Nat.le_of_ble_eq_true rfl)⟩) (preV hC hS hLo (oW_obj (PP_l hP)) (ci := 7) (q0 := 0) rfl rfl) rfl rfl hl.1 rfl (lv_room (Nat.le_of_ble_eq_true rfl)) dL_isNextSo_273 ⟨(Nat.le_of_ble_eq_true rfl), (Nat.le_of_ble_eq_true rfl)⟩) hP hD hS hA (fun _ => oW_fst) (fun r_67 u_65 H locs q_66 hP hD hS => ?_)
                                              have hP : PP G (oW G a v u_65 ++ ouW G oa of1) H := hP
                                              have hD : va_D A (oW G a v u_65 ++ ouW G oa of1) := hD
                                              have hjj := q_66.2.1
                                              have hje := q_66.2.2
                                              refine topE (v' := nI (min ((jH j).2.1 + 1) 6 - 1)) (q_66.1) ?_
                                              refine lv_if_lt (tgt := 310) hx hb dL_isNextSo_276 (by decide) (fun c_68 => ?_) (fun c_68 => ?_)
                                              · have f_69 : ((min ((jH j).2.1 + 1) 6 - 1 : Nat) : Int) < (0 : Int) := (c_lt (nI_toInt (n := min ((jH j).2.1 + 1) 6 - 1) (by omega)) rfl).mp c_68
                                                exfalso; omega
                                              · have f_70 : ¬ ((min ((jH j).2.1 + 1) 6 - 1 : Nat) : Int) < (0 : Int) := fun z => c_68 ((c_lt (nI_toInt (n := min ((jH j).2.1 + 1) 6 - 1) (by omega)) rfl).mpr z)
                                                refine lv_aload_n hx hb dL_isNextSo_279 rfl (lv_at hl 2 rfl) ?_
                                                refine kPi (va_runV (As := []) (rest := []) ⟨hx, hb, hml, hown, hts⟩ (c_X8_pictureCount a v (oW_now (PP_l hP))) (cwV 0 hts gL_isNextSo_X8_pictureCount rfl rfl rfl (by decide +kernel) ⟨(Nat.le_of_ble_eq_true rfl), (Nat.le_of_ble_eq_true rfl)⟩) (preV hC hS hLo (oW_obj (PP_l hP)) (ci := 7) (q0 := 0) rfl rfl) rfl rfl hl.1 rfl (lv_room (Nat.le_of_ble_eq_true rfl)) dL_isNextSo_280 ⟨(Nat.le_of_ble_eq_true rfl), (Nat.le_of_ble_eq_true rfl)⟩) hS (fun locs hS => ?_)
                                                refine topE (v' := nI (sPi v)) (rfl) ?_
                                                refine lv_iload hx hb dL_isNextSo_283 (lv_at hl 9 rfl) ?_
                                                refine lv_icmp_ne (tgt := 310) hx hb dL_isNextSo_285 (by decide) (fun c_71 => ?_) (fun c_71 => ?_)
                                                · have f_72 := c_71
                                                  exact absurd rfl f_72
                                                · have f_73 := c_71
                                                  refine lv_aload_n hx hb dL_isNextSo_288 rfl (lv_at hl 2 rfl) ?_
                                                  refine kPi (va_runV (As := []) (rest := []) ⟨hx, hb, hml, hown, hts⟩ (c_X8_drift a v hd ht hg (oW_now (PP_l hP))) (cwV 0 hts gL_isNextSo_X8_drift rfl rfl rfl (by decide +kernel) ⟨(Nat.le_of_ble_eq_true rfl), (Nat.le_of_ble_eq_true rfl)⟩) (preV hC hS hLo (oW_obj (PP_l hP)) (ci := 7) (q0 := 0) rfl rfl) rfl rfl hl.1 rfl (lv_room (Nat.le_of_ble_eq_true rfl)) dL_isNextSo_289 ⟨(Nat.le_of_ble_eq_true rfl), (Nat.le_of_ble_eq_true rfl)⟩) hS (fun locs hS => ?_)
                                                  refine topE (v' := iI (sZ (fun j => ((sT v j - sG v j).natAbs : Int)) 64)) (rfl) ?_
                                                  refine lv_iload hx hb dL_isNextSo_292 (lv_at hl 10 rfl) ?_
                                                  refine lv_icmp_ne (tgt := 310) hx hb dL_isNextSo_294 (by decide) (fun c_74 => ?_) (fun c_74 => ?_)
                                                  · have f_75 := c_74
                                                    exact absurd rfl f_75
                                                  · have f_76 := c_74
                                                    refine lv_aload_n hx hb dL_isNextSo_297 rfl (lv_at hl 2 rfl) ?_
                                                    refine kPreI (va_runV (As := []) (rest := []) ⟨hx, hb, hml, hown, hts⟩ (o_bitsNext a v u_65 hv0 (by omega) hjj (PP_l hP) ((pre_D hD).weaken (fun _ _ _ h => hLo _ h))) (cwV 0 hts gL_isNextSo_X8_bitsNext rfl rfl rfl (by decide +kernel) ⟨(Nat.le_of_ble_eq_true rfl), (Nat.le_of_ble_eq_true rfl)⟩) (preV hC hS hLo (oW_obj (PP_l hP)) (ci := 7) (q0 := 0) rfl rfl) rfl rfl hl.1 rfl (lv_room (Nat.le_of_ble_eq_true rfl)) dL_isNextSo_298 ⟨(Nat.le_of_ble_eq_true rfl), (Nat.le_of_ble_eq_true rfl)⟩) hP hD hS hA (fun _ => oW_fst) (fun r_79 u_77 H locs q_78 hP hD hS => ?_)
                                                    have hP : PP G (oW G a v u_77 ++ ouW G oa of1) H := hP
                                                    have hD : va_D A (oW G a v u_77 ++ ouW G oa of1) := hD
                                                    have hje := q_78.2.2.trans hje
                                                    have hjj := q_78.2.1
                                                    refine topE (v' := nI (BITS v)) (q_78.1) ?_
                                                    refine lv_iload hx hb dL_isNextSo_301 (lv_at hl 6 rfl) ?_
                                                    refine lv_icmp_ne (tgt := 310) hx hb dL_isNextSo_303 (by decide) (fun c_80 => ?_) (fun c_80 => ?_)
                                                    · have f_81 := c_80
                                                      exact absurd rfl f_81
                                                    · have f_82 := c_80
                                                      refine lv_iconst (v := nI (1)) hx hb dL_isNextSo_306 (by decide) ?_
                                                      refine lv_goto (tgt := 311) hx hb dL_isNextSo_307 (by decide) ?_
                                                      exact xMi (G := G) (post := (fun (r : Int32) (u : JT × (Nat → Int32)) => r = nI 1 ∧ OKJ u.1 ∧ jH u.1 = rbH (jH j) v)) (w1 := (fun (u : JT × (Nat → Int32)) => oW G a v u.1 ++ ouW G oa u.2)) ((u_77, of1)) hx hb hr hlocks hP hS (by exact ⟨rfl, hjj, hje⟩) (by exact rfl) dL_isNextSo_311
                                          · have f_83 : ((COM (sD v) (sT v) (sBu v) : Nat) : Int) = (1 : Int) := (c_eq (nI_toInt (n := COM (sD v) (sT v) (sBu v)) (by omega)) (nI_toInt (n := 1) (by omega))).mp c_60
                                            refine lv_iload_n hx hb dL_isNextSo_239 rfl (lv_at hl 3 rfl) ?_
                                            refine lv_if_ne (tgt := 267) hx hb dL_isNextSo_240 (by decide) (fun c_84 => ?_) (fun c_84 => ?_)
                                            · have f_85 : ¬ (1 : Int) = (0 : Int) := fun z => c_84 ((c_eq (nI_toInt (n := 1) (by omega)) rfl).mpr z)
                                              refine lv_iload hx hb dL_isNextSo_267 (lv_at hl 0 rfl) ?_
                                              refine lv_if_eq (tgt := 310) hx hb dL_isNextSo_269 (by decide) (fun c_86 => ?_) (fun c_86 => ?_)
                                              · have f_87 : (1 : Int) = (0 : Int) := (c_eq (nI_toInt (n := 1) (by omega)) rfl).mp c_86
                                                exfalso; omega
                                              · have f_88 : ¬ (1 : Int) = (0 : Int) := fun z => c_86 ((c_eq (nI_toInt (n := 1) (by omega)) rfl).mpr z)
                                                refine lv_aload_n hx hb dL_isNextSo_272 rfl (lv_at hl 2 rfl) ?_
                                                refine kPreI (va_runV (As := []) (rest := []) ⟨hx, hb, hml, hown, hts⟩ (o_undo a (sndV 1 v mo) j1 (jH j) v hj.2.2.1 hj1 hjh1 (PP_l hP) ((pre_D hD).weaken (fun _ _ _ h => hLo _ h))) (cwV 0 hts gL_isNextSo_X8_undo rfl rfl rfl (by decide +kernel) ⟨(Nat.le_of_ble_eq_true rfl), (Nat.le_of_ble_eq_true rfl)⟩) (preV hC hS hLo (oW_obj (PP_l hP)) (ci := 7) (q0 := 0) rfl rfl) rfl rfl hl.1 rfl (lv_room (Nat.le_of_ble_eq_true rfl)) dL_isNextSo_273 ⟨(Nat.le_of_ble_eq_true rfl), (Nat.le_of_ble_eq_true rfl)⟩) hP hD hS hA (fun _ => oW_fst) (fun r_91 u_89 H locs q_90 hP hD hS => ?_)
                                                have hP : PP G (oW G a v u_89 ++ ouW G oa of1) H := hP
                                                have hD : va_D A (oW G a v u_89 ++ ouW G oa of1) := hD
                                                have hjj := q_90.2.1
                                                have hje := q_90.2.2
                                                refine topE (v' := nI (min ((jH j).2.1 + 1) 6 - 1)) (q_90.1) ?_
                                                refine lv_if_lt (tgt := 310) hx hb dL_isNextSo_276 (by decide) (fun c_92 => ?_) (fun c_92 => ?_)
                                                · have f_93 : ((min ((jH j).2.1 + 1) 6 - 1 : Nat) : Int) < (0 : Int) := (c_lt (nI_toInt (n := min ((jH j).2.1 + 1) 6 - 1) (by omega)) rfl).mp c_92
                                                  exfalso; omega
                                                · have f_94 : ¬ ((min ((jH j).2.1 + 1) 6 - 1 : Nat) : Int) < (0 : Int) := fun z => c_92 ((c_lt (nI_toInt (n := min ((jH j).2.1 + 1) 6 - 1) (by omega)) rfl).mpr z)
                                                  refine lv_aload_n hx hb dL_isNextSo_279 rfl (lv_at hl 2 rfl) ?_
                                                  refine kPi (va_runV (As := []) (rest := []) ⟨hx, hb, hml, hown, hts⟩ (c_X8_pictureCount a v (oW_now (PP_l hP))) (cwV 0 hts gL_isNextSo_X8_pictureCount rfl rfl rfl (by decide +kernel) ⟨(Nat.le_of_ble_eq_true rfl), (Nat.le_of_ble_eq_true rfl)⟩) (preV hC hS hLo (oW_obj (PP_l hP)) (ci := 7) (q0 := 0) rfl rfl) rfl rfl hl.1 rfl (lv_room (Nat.le_of_ble_eq_true rfl)) dL_isNextSo_280 ⟨(Nat.le_of_ble_eq_true rfl), (Nat.le_of_ble_eq_true rfl)⟩) hS (fun locs hS => ?_)
                                                  refine topE (v' := nI (sPi v)) (rfl) ?_
                                                  refine lv_iload hx hb dL_isNextSo_283 (lv_at hl 9 rfl) ?_
                                                  refine lv_icmp_ne (tgt := 310) hx hb dL_isNextSo_285 (by decide) (fun c_95 => ?_) (fun c_95 => ?_)
                                                  · have f_96 := c_95
                                                    exact absurd rfl f_96
                                                  · have f_97 := c_95
                                                    refine lv_aload_n hx hb dL_isNextSo_288 rfl (lv_at hl 2 rfl) ?_
                                                    refine kPi (va_runV (As := []) (rest := []) ⟨hx, hb, hml, hown, hts⟩ (c_X8_drift a v hd ht hg (oW_now (PP_l hP))) (cwV 0 hts gL_isNextSo_X8_drift rfl rfl rfl (by decide +kernel) ⟨(Nat.le_of_ble_eq_true rfl), (Nat.le_of_ble_eq_true rfl)⟩) (preV hC hS hLo (oW_obj (PP_l hP)) (ci := 7) (q0 := 0) rfl rfl) rfl rfl hl.1 rfl (lv_room (Nat.le_of_ble_eq_true rfl)) dL_isNextSo_289 ⟨(Nat.le_of_ble_eq_true rfl), (Nat.le_of_ble_eq_true rfl)⟩) hS (fun locs hS => ?_)
                                                    refine topE (v' := iI (sZ (fun j => ((sT v j - sG v j).natAbs : Int)) 64)) (rfl) ?_
                                                    refine lv_iload hx hb dL_isNextSo_292 (lv_at hl 10 rfl) ?_
                                                    refine lv_icmp_ne (tgt := 310) hx hb dL_isNextSo_294 (by decide) (fun c_98 => ?_) (fun c_98 => ?_)
                                                    · have f_99 := c_98
                                                      exact absurd rfl f_99
                                                    · have f_100 := c_98
                                                      refine lv_aload_n hx hb dL_isNextSo_297 rfl (lv_at hl 2 rfl) ?_
                                                      refine kPreI (va_runV (As := []) (rest := []) ⟨hx, hb, hml, hown, hts⟩ (o_bitsNext a v u_89 hv0 (by omega) hjj (PP_l hP) ((pre_D hD).weaken (fun _ _ _ h => hLo _ h))) (cwV 0 hts gL_isNextSo_X8_bitsNext rfl rfl rfl (by decide +kernel) ⟨(Nat.le_of_ble_eq_true rfl), (Nat.le_of_ble_eq_true rfl)⟩) (preV hC hS hLo (oW_obj (PP_l hP)) (ci := 7) (q0 := 0) rfl rfl) rfl rfl hl.1 rfl (lv_room (Nat.le_of_ble_eq_true rfl)) dL_isNextSo_298 ⟨(Nat.le_of_ble_eq_true rfl), (Nat.le_of_ble_eq_true rfl)⟩) hP hD hS hA (fun _ => oW_fst) (fun r_103 u_101 H locs q_102 hP hD hS => ?_)
                                                      have hP : PP G (oW G a v u_101 ++ ouW G oa of1) H := hP
                                                      have hD : va_D A (oW G a v u_101 ++ ouW G oa of1) := hD
                                                      have hje := q_102.2.2.trans hje
                                                      have hjj := q_102.2.1
                                                      refine topE (v' := nI (BITS v)) (q_102.1) ?_
                                                      refine lv_iload hx hb dL_isNextSo_301 (lv_at hl 6 rfl) ?_
                                                      refine lv_icmp_ne (tgt := 310) hx hb dL_isNextSo_303 (by decide) (fun c_104 => ?_) (fun c_104 => ?_)
                                                      · have f_105 := c_104
                                                        exact absurd rfl f_105
                                                      · have f_106 := c_104
                                                        refine lv_iconst (v := nI (1)) hx hb dL_isNextSo_306 (by decide) ?_
                                                        refine lv_goto (tgt := 311) hx hb dL_isNextSo_307 (by decide) ?_
                                                        exact xMi (G := G) (post := (fun (r : Int32) (u : JT × (Nat → Int32)) => r = nI 1 ∧ OKJ u.1 ∧ jH u.1 = rbH (jH j) v)) (w1 := (fun (u : JT × (Nat → Int32)) => oW G a v u.1 ++ ouW G oa u.2)) ((u_101, of1)) hx hb hr hlocks hP hS (by exact ⟨rfl, hjj, hje⟩) (by exact rfl) dL_isNextSo_311
                                            · have f_107 : (1 : Int) = (0 : Int) := (c_eq (nI_toInt (n := 1) (by omega)) rfl).mp c_84
                                              exfalso; omega
                                      · have f_108 : ¬ (0 : Int) = (0 : Int) := fun z => c_55 ((c_eq (nI_toInt (n := 0) (by omega)) rfl).mpr z)
                                        exfalso; omega
                                    · have f_109 : ¬ (1 : Int) < ((COM (sD v) (sT v) (sBu v) : Nat) : Int) := fun z => c_53 ((c_lt (nI_toInt (n := 1) (by omega)) (nI_toInt (n := COM (sD v) (sT v) (sBu v)) (by omega))).mpr z)
                                      refine lv_aload_n hx hb dL_isNextSo_199 rfl (lv_at hl 2 rfl) ?_
                                      refine kPi (va_runV (As := []) (rest := []) ⟨hx, hb, hml, hown, hts⟩ (c_X8_error a (sndV 1 v mo) hvs.1 hvs.2.1 hvs.2.2.1 (oW_now (PP_l hP))) (cwV 0 hts gL_isNextSo_X8_error rfl rfl rfl (by decide +kernel) ⟨(Nat.le_of_ble_eq_true rfl), (Nat.le_of_ble_eq_true rfl)⟩) (preV hC hS hLo (oW_obj (PP_l hP)) (ci := 7) (q0 := 0) rfl rfl) rfl rfl hl.1 rfl (lv_room (Nat.le_of_ble_eq_true rfl)) dL_isNextSo_200 ⟨(Nat.le_of_ble_eq_true rfl), (Nat.le_of_ble_eq_true rfl)⟩) hS (fun locs hS => ?_)
                                      refine topE (v' := nI (0)) ((congrArg iI (snd_err (by omega))).trans (nI_i 0).symm) ?_
                                      refine lv_if_ne (tgt := 226) hx hb dL_isNextSo_203 (by decide) (fun c_110 => ?_) (fun c_110 => ?_)
                                      · have f_111 : ¬ (0 : Int) = (0 : Int) := fun z => c_110 ((c_eq (nI_toInt (n := 0) (by omega)) rfl).mpr z)
                                        exfalso; omega
                                      · have f_112 : (0 : Int) = (0 : Int) := (c_eq (nI_toInt (n := 0) (by omega)) rfl).mp c_110
                                        refine lv_iload hx hb dL_isNextSo_206 (lv_at hl 11 rfl) ?_
                                        refine lv_if_eq (tgt := 222) hx hb dL_isNextSo_208 (by decide) (fun c_113 => ?_) (fun c_113 => ?_)
                                        · have f_114 : (0 : Int) = (0 : Int) := (c_eq (nI_toInt (n := 0) (by omega)) rfl).mp c_113
                                          refine lv_iconst (v := nI (1)) hx hb dL_isNextSo_222 (by decide) ?_
                                          refine lv_goto (tgt := 227) hx hb dL_isNextSo_223 (by decide) ?_
                                          refine lv_istore (lv' := [(10, .int (nI (1))), (11, .int (nI (0))), (0, .ref (a 0)), (1, .int (nI (1))), (2, .ref oa), (3, .int (nI (COM (sD v) (sT v) (sBu v)))), (4, .int (nI (BITS v))), (5, .int (nI (ABM (sD v) (sT v) (COM (sD v) (sT v) (sBu v)) 4))), (6, .int (nI (sBi v))), (7, .int (nI (sPi v))), (8, .int (iI (sZ (fun j => ((sT v j - sG v j).natAbs : Int)) 64))), (9, .int (nI (0)))]) hx hb dL_isNextSo_227 hl (by decide) rfl (fun ls hl => ?_)
                                          refine lv_iload hx hb dL_isNextSo_229 (lv_at hl 11 rfl) ?_
                                          refine lv_if_ne (tgt := 267) hx hb dL_isNextSo_231 (by decide) (fun c_115 => ?_) (fun c_115 => ?_)
                                          · have f_116 : ¬ (0 : Int) = (0 : Int) := fun z => c_115 ((c_eq (nI_toInt (n := 0) (by omega)) rfl).mpr z)
                                            exfalso; omega
                                          · have f_117 : (0 : Int) = (0 : Int) := (c_eq (nI_toInt (n := 0) (by omega)) rfl).mp c_115
                                            refine lv_iload_n hx hb dL_isNextSo_234 rfl (lv_at hl 5 rfl) ?_
                                            refine lv_iconst (v := nI (1)) hx hb dL_isNextSo_235 (by decide) ?_
                                            refine lv_icmp_ne (tgt := 267) hx hb dL_isNextSo_236 (by decide) (fun c_118 => ?_) (fun c_118 => ?_)
                                            · have f_119 : ¬ ((COM (sD v) (sT v) (sBu v) : Nat) : Int) = (1 : Int) := fun z => c_118 ((c_eq (nI_toInt (n := COM (sD v) (sT v) (sBu v)) (by omega)) (nI_toInt (n := 1) (by omega))).mpr z)
                                              refine lv_iload hx hb dL_isNextSo_267 (lv_at hl 0 rfl) ?_
                                              refine lv_if_eq (tgt := 310) hx hb dL_isNextSo_269 (by decide) (fun c_120 => ?_) (fun c_120 => ?_)
                                              · have f_121 : (1 : Int) = (0 : Int) := (c_eq (nI_toInt (n := 1) (by omega)) rfl).mp c_120
                                                exfalso; omega
                                              · have f_122 : ¬ (1 : Int) = (0 : Int) := fun z => c_120 ((c_eq (nI_toInt (n := 1) (by omega)) rfl).mpr z)
                                                refine lv_aload_n hx hb dL_isNextSo_272 rfl (lv_at hl 2 rfl) ?_
                                                refine kPreI (va_runV (As := []) (rest := []) ⟨hx, hb, hml, hown, hts⟩ (o_undo a (sndV 1 v mo) j1 (jH j) v hj.2.2.1 hj1 hjh1 (PP_l hP) ((pre_D hD).weaken (fun _ _ _ h => hLo _ h))) (cwV 0 hts gL_isNextSo_X8_undo rfl rfl rfl (by decide +kernel) ⟨(Nat.le_of_ble_eq_true rfl), (Nat.le_of_ble_eq_true rfl)⟩) (preV hC hS hLo (oW_obj (PP_l hP)) (ci := 7) (q0 := 0) rfl rfl) rfl rfl hl.1 rfl (lv_room (Nat.le_of_ble_eq_true rfl)) dL_isNextSo_273 ⟨(Nat.le_of_ble_eq_true rfl), (Nat.le_of_ble_eq_true rfl)⟩) hP hD hS hA (fun _ => oW_fst) (fun r_125 u_123 H locs q_124 hP hD hS => ?_)
                                                have hP : PP G (oW G a v u_123 ++ ouW G oa of1) H := hP
                                                have hD : va_D A (oW G a v u_123 ++ ouW G oa of1) := hD
                                                have hjj := q_124.2.1
                                                have hje := q_124.2.2
                                                refine topE (v' := nI (min ((jH j).2.1 + 1) 6 - 1)) (q_124.1) ?_
                                                refine lv_if_lt (tgt := 310) hx hb dL_isNextSo_276 (by decide) (fun c_126 => ?_) (fun c_126 => ?_)
                                                · have f_127 : ((min ((jH j).2.1 + 1) 6 - 1 : Nat) : Int) < (0 : Int) := (c_lt (nI_toInt (n := min ((jH j).2.1 + 1) 6 - 1) (by omega)) rfl).mp c_126
                                                  exfalso; omega
                                                · have f_128 : ¬ ((min ((jH j).2.1 + 1) 6 - 1 : Nat) : Int) < (0 : Int) := fun z => c_126 ((c_lt (nI_toInt (n := min ((jH j).2.1 + 1) 6 - 1) (by omega)) rfl).mpr z)
                                                  refine lv_aload_n hx hb dL_isNextSo_279 rfl (lv_at hl 2 rfl) ?_
                                                  refine kPi (va_runV (As := []) (rest := []) ⟨hx, hb, hml, hown, hts⟩ (c_X8_pictureCount a v (oW_now (PP_l hP))) (cwV 0 hts gL_isNextSo_X8_pictureCount rfl rfl rfl (by decide +kernel) ⟨(Nat.le_of_ble_eq_true rfl), (Nat.le_of_ble_eq_true rfl)⟩) (preV hC hS hLo (oW_obj (PP_l hP)) (ci := 7) (q0 := 0) rfl rfl) rfl rfl hl.1 rfl (lv_room (Nat.le_of_ble_eq_true rfl)) dL_isNextSo_280 ⟨(Nat.le_of_ble_eq_true rfl), (Nat.le_of_ble_eq_true rfl)⟩) hS (fun locs hS => ?_)
                                                  refine topE (v' := nI (sPi v)) (rfl) ?_
                                                  refine lv_iload hx hb dL_isNextSo_283 (lv_at hl 9 rfl) ?_
                                                  refine lv_icmp_ne (tgt := 310) hx hb dL_isNextSo_285 (by decide) (fun c_129 => ?_) (fun c_129 => ?_)
                                                  · have f_130 := c_129
                                                    exact absurd rfl f_130
                                                  · have f_131 := c_129
                                                    refine lv_aload_n hx hb dL_isNextSo_288 rfl (lv_at hl 2 rfl) ?_
                                                    refine kPi (va_runV (As := []) (rest := []) ⟨hx, hb, hml, hown, hts⟩ (c_X8_drift a v hd ht hg (oW_now (PP_l hP))) (cwV 0 hts gL_isNextSo_X8_drift rfl rfl rfl (by decide +kernel) ⟨(Nat.le_of_ble_eq_true rfl), (Nat.le_of_ble_eq_true rfl)⟩) (preV hC hS hLo (oW_obj (PP_l hP)) (ci := 7) (q0 := 0) rfl rfl) rfl rfl hl.1 rfl (lv_room (Nat.le_of_ble_eq_true rfl)) dL_isNextSo_289 ⟨(Nat.le_of_ble_eq_true rfl), (Nat.le_of_ble_eq_true rfl)⟩) hS (fun locs hS => ?_)
                                                    refine topE (v' := iI (sZ (fun j => ((sT v j - sG v j).natAbs : Int)) 64)) (rfl) ?_
                                                    refine lv_iload hx hb dL_isNextSo_292 (lv_at hl 10 rfl) ?_
                                                    refine lv_icmp_ne (tgt := 310) hx hb dL_isNextSo_294 (by decide) (fun c_132 => ?_) (fun c_132 => ?_)
                                                    · have f_133 := c_132
                                                      exact absurd rfl f_133
                                                    · have f_134 := c_132
                                                      refine lv_aload_n hx hb dL_isNextSo_297 rfl (lv_at hl 2 rfl) ?_
                                                      refine kPreI (va_runV (As := []) (rest := []) ⟨hx, hb, hml, hown, hts⟩ (o_bitsNext a v u_123 hv0 (by omega) hjj (PP_l hP) ((pre_D hD).weaken (fun _ _ _ h => hLo _ h))) (cwV 0 hts gL_isNextSo_X8_bitsNext rfl rfl rfl (by decide +kernel) ⟨(Nat.le_of_ble_eq_true rfl), (Nat.le_of_ble_eq_true rfl)⟩) (preV hC hS hLo (oW_obj (PP_l hP)) (ci := 7) (q0 := 0) rfl rfl) rfl rfl hl.1 rfl (lv_room (Nat.le_of_ble_eq_true rfl)) dL_isNextSo_298 ⟨(Nat.le_of_ble_eq_true rfl), (Nat.le_of_ble_eq_true rfl)⟩) hP hD hS hA (fun _ => oW_fst) (fun r_137 u_135 H locs q_136 hP hD hS => ?_)
                                                      have hP : PP G (oW G a v u_135 ++ ouW G oa of1) H := hP
                                                      have hD : va_D A (oW G a v u_135 ++ ouW G oa of1) := hD
                                                      have hje := q_136.2.2.trans hje
                                                      have hjj := q_136.2.1
                                                      refine topE (v' := nI (BITS v)) (q_136.1) ?_
                                                      refine lv_iload hx hb dL_isNextSo_301 (lv_at hl 6 rfl) ?_
                                                      refine lv_icmp_ne (tgt := 310) hx hb dL_isNextSo_303 (by decide) (fun c_138 => ?_) (fun c_138 => ?_)
                                                      · have f_139 := c_138
                                                        exact absurd rfl f_139
                                                      · have f_140 := c_138
                                                        refine lv_iconst (v := nI (1)) hx hb dL_isNextSo_306 (by decide) ?_
                                                        refine lv_goto (tgt := 311) hx hb dL_isNextSo_307 (by decide) ?_
                                                        exact xMi (G := G) (post := (fun (r : Int32) (u : JT × (Nat → Int32)) => r = nI 1 ∧ OKJ u.1 ∧ jH u.1 = rbH (jH j) v)) (w1 := (fun (u : JT × (Nat → Int32)) => oW G a v u.1 ++ ouW G oa u.2)) ((u_135, of1)) hx hb hr hlocks hP hS (by exact ⟨rfl, hjj, hje⟩) (by exact rfl) dL_isNextSo_311
                                            · have f_141 : ((COM (sD v) (sT v) (sBu v) : Nat) : Int) = (1 : Int) := (c_eq (nI_toInt (n := COM (sD v) (sT v) (sBu v)) (by omega)) (nI_toInt (n := 1) (by omega))).mp c_118
                                              refine lv_iload_n hx hb dL_isNextSo_239 rfl (lv_at hl 3 rfl) ?_
                                              refine lv_if_ne (tgt := 267) hx hb dL_isNextSo_240 (by decide) (fun c_142 => ?_) (fun c_142 => ?_)
                                              · have f_143 : ¬ (1 : Int) = (0 : Int) := fun z => c_142 ((c_eq (nI_toInt (n := 1) (by omega)) rfl).mpr z)
                                                refine lv_iload hx hb dL_isNextSo_267 (lv_at hl 0 rfl) ?_
                                                refine lv_if_eq (tgt := 310) hx hb dL_isNextSo_269 (by decide) (fun c_144 => ?_) (fun c_144 => ?_)
                                                · have f_145 : (1 : Int) = (0 : Int) := (c_eq (nI_toInt (n := 1) (by omega)) rfl).mp c_144
                                                  exfalso; omega
                                                · have f_146 : ¬ (1 : Int) = (0 : Int) := fun z => c_144 ((c_eq (nI_toInt (n := 1) (by omega)) rfl).mpr z)
                                                  refine lv_aload_n hx hb dL_isNextSo_272 rfl (lv_at hl 2 rfl) ?_
                                                  refine kPreI (va_runV (As := []) (rest := []) ⟨hx, hb, hml, hown, hts⟩ (o_undo a (sndV 1 v mo) j1 (jH j) v hj.2.2.1 hj1 hjh1 (PP_l hP) ((pre_D hD).weaken (fun _ _ _ h => hLo _ h))) (cwV 0 hts gL_isNextSo_X8_undo rfl rfl rfl (by decide +kernel) ⟨(Nat.le_of_ble_eq_true rfl), (Nat.le_of_ble_eq_true rfl)⟩) (preV hC hS hLo (oW_obj (PP_l hP)) (ci := 7) (q0 := 0) rfl rfl) rfl rfl hl.1 rfl (lv_room (Nat.le_of_ble_eq_true rfl)) dL_isNextSo_273 ⟨(Nat.le_of_ble_eq_true rfl), (Nat.le_of_ble_eq_true rfl)⟩) hP hD hS hA (fun _ => oW_fst) (fun r_149 u_147 H locs q_148 hP hD hS => ?_)
                                                  have hP : PP G (oW G a v u_147 ++ ouW G oa of1) H := hP
                                                  have hD : va_D A (oW G a v u_147 ++ ouW G oa of1) := hD
                                                  have hjj := q_148.2.1
                                                  have hje := q_148.2.2
                                                  refine topE (v' := nI (min ((jH j).2.1 + 1) 6 - 1)) (q_148.1) ?_
                                                  refine lv_if_lt (tgt := 310) hx hb dL_isNextSo_276 (by decide) (fun c_150 => ?_) (fun c_150 => ?_)
                                                  · have f_151 : ((min ((jH j).2.1 + 1) 6 - 1 : Nat) : Int) < (0 : Int) := (c_lt (nI_toInt (n := min ((jH j).2.1 + 1) 6 - 1) (by omega)) rfl).mp c_150
                                                    exfalso; omega
                                                  · have f_152 : ¬ ((min ((jH j).2.1 + 1) 6 - 1 : Nat) : Int) < (0 : Int) := fun z => c_150 ((c_lt (nI_toInt (n := min ((jH j).2.1 + 1) 6 - 1) (by omega)) rfl).mpr z)
                                                    refine lv_aload_n hx hb dL_isNextSo_279 rfl (lv_at hl 2 rfl) ?_
                                                    refine kPi (va_runV (As := []) (rest := []) ⟨hx, hb, hml, hown, hts⟩ (c_X8_pictureCount a v (oW_now (PP_l hP))) (cwV 0 hts gL_isNextSo_X8_pictureCount rfl rfl rfl (by decide +kernel) ⟨(Nat.le_of_ble_eq_true rfl), (Nat.le_of_ble_eq_true rfl)⟩) (preV hC hS hLo (oW_obj (PP_l hP)) (ci := 7) (q0 := 0) rfl rfl) rfl rfl hl.1 rfl (lv_room (Nat.le_of_ble_eq_true rfl)) dL_isNextSo_280 ⟨(Nat.le_of_ble_eq_true rfl), (Nat.le_of_ble_eq_true rfl)⟩) hS (fun locs hS => ?_)
                                                    refine topE (v' := nI (sPi v)) (rfl) ?_
                                                    refine lv_iload hx hb dL_isNextSo_283 (lv_at hl 9 rfl) ?_
                                                    refine lv_icmp_ne (tgt := 310) hx hb dL_isNextSo_285 (by decide) (fun c_153 => ?_) (fun c_153 => ?_)
                                                    · have f_154 := c_153
                                                      exact absurd rfl f_154
                                                    · have f_155 := c_153
                                                      refine lv_aload_n hx hb dL_isNextSo_288 rfl (lv_at hl 2 rfl) ?_
                                                      refine kPi (va_runV (As := []) (rest := []) ⟨hx, hb, hml, hown, hts⟩ (c_X8_drift a v hd ht hg (oW_now (PP_l hP))) (cwV 0 hts gL_isNextSo_X8_drift rfl rfl rfl (by decide +kernel) ⟨(Nat.le_of_ble_eq_true rfl), (Nat.le_of_ble_eq_true rfl)⟩) (preV hC hS hLo (oW_obj (PP_l hP)) (ci := 7) (q0 := 0) rfl rfl) rfl rfl hl.1 rfl (lv_room (Nat.le_of_ble_eq_true rfl)) dL_isNextSo_289 ⟨(Nat.le_of_ble_eq_true rfl), (Nat.le_of_ble_eq_true rfl)⟩) hS (fun locs hS => ?_)
                                                      refine topE (v' := iI (sZ (fun j => ((sT v j - sG v j).natAbs : Int)) 64)) (rfl) ?_
                                                      refine lv_iload hx hb dL_isNextSo_292 (lv_at hl 10 rfl) ?_
                                                      refine lv_icmp_ne (tgt := 310) hx hb dL_isNextSo_294 (by decide) (fun c_156 => ?_) (fun c_156 => ?_)
                                                      · have f_157 := c_156
                                                        exact absurd rfl f_157
                                                      · have f_158 := c_156
                                                        refine lv_aload_n hx hb dL_isNextSo_297 rfl (lv_at hl 2 rfl) ?_
                                                        refine kPreI (va_runV (As := []) (rest := []) ⟨hx, hb, hml, hown, hts⟩ (o_bitsNext a v u_147 hv0 (by omega) hjj (PP_l hP) ((pre_D hD).weaken (fun _ _ _ h => hLo _ h))) (cwV 0 hts gL_isNextSo_X8_bitsNext rfl rfl rfl (by decide +kernel) ⟨(Nat.le_of_ble_eq_true rfl), (Nat.le_of_ble_eq_true rfl)⟩) (preV hC hS hLo (oW_obj (PP_l hP)) (ci := 7) (q0 := 0) rfl rfl) rfl rfl hl.1 rfl (lv_room (Nat.le_of_ble_eq_true rfl)) dL_isNextSo_298 ⟨(Nat.le_of_ble_eq_true rfl), (Nat.le_of_ble_eq_true rfl)⟩) hP hD hS hA (fun _ => oW_fst) (fun r_161 u_159 H locs q_160 hP hD hS => ?_)
                                                        have hP : PP G (oW G a v u_159 ++ ouW G oa of1) H := hP
                                                        have hD : va_D A (oW G a v u_159 ++ ouW G oa of1) := hD
                                                        have hje := q_160.2.2.trans hje
                                                        have hjj := q_160.2.1
                                                        refine topE (v' := nI (BITS v)) (q_160.1) ?_
                                                        refine lv_iload hx hb dL_isNextSo_301 (lv_at hl 6 rfl) ?_
                                                        refine lv_icmp_ne (tgt := 310) hx hb dL_isNextSo_303 (by decide) (fun c_162 => ?_) (fun c_162 => ?_)
                                                        · have f_163 := c_162
                                                          exact absurd rfl f_163
                                                        · have f_164 := c_162
                                                          refine lv_iconst (v := nI (1)) hx hb dL_isNextSo_306 (by decide) ?_
                                                          refine lv_goto (tgt := 311) hx hb dL_isNextSo_307 (by decide) ?_
                                                          exact xMi (G := G) (post := (fun (r : Int32) (u : JT × (Nat → Int32)) => r = nI 1 ∧ OKJ u.1 ∧ jH u.1 = rbH (jH j) v)) (w1 := (fun (u : JT × (Nat → Int32)) => oW G a v u.1 ++ ouW G oa u.2)) ((u_159, of1)) hx hb hr hlocks hP hS (by exact ⟨rfl, hjj, hje⟩) (by exact rfl) dL_isNextSo_311
                                              · have f_165 : (1 : Int) = (0 : Int) := (c_eq (nI_toInt (n := 1) (by omega)) rfl).mp c_142
                                                exfalso; omega
                                        · have f_166 : ¬ (0 : Int) = (0 : Int) := fun z => c_113 ((c_eq (nI_toInt (n := 0) (by omega)) rfl).mpr z)
                                          exfalso; omega
        · have f_167 : ((COM (sD v) (sT v) (sBu v) : Nat) : Int) = (-1) := (c_eq (nI_toInt (n := COM (sD v) (sT v) (sBu v)) (by omega)) (iI_toInt (by omega) (by omega))).mp c_9
          exfalso; omega
      · have f_168 : ¬ (4 : Int) ≤ ((i : Nat) : Int) := fun z => c_7 ((c_le (nI_toInt (n := 4) (by omega)) (nI_toInt (n := i) (by omega))).mpr z)
        refine lv_iload hx hb dL_isNextSo_47 (lv_at hl 5 rfl) ?_
        refine lv_iload hx hb dL_isNextSo_49 (lv_at hl 9 rfl) ?_
        refine lv_if_eq (tgt := 59) hx hb dL_isNextSo_51 (by decide) (fun c_169 => ?_) (fun c_169 => ?_)
        · have f_170 : (0 : Int) = (0 : Int) := (c_eq (nI_toInt (n := 0) (by omega)) rfl).mp c_169
          refine lv_aload_n hx hb dL_isNextSo_59 rfl (lv_at hl 0 rfl) ?_
          refine lv_iload hx hb dL_isNextSo_60 (lv_at hl 10 rfl) ?_
          refine lv_iload_n hx hb dL_isNextSo_62 rfl (lv_at hl 3 rfl) ?_
          refine kPreI (va_runV (As := [.int (nI (i)), .int (nI (COM (sD v) (sT v) (sBu v)))]) (rest := [.int (nI (ABM (sD v) (sT v) (COM (sD v) (sT v) (sBu v)) i))]) ⟨hx, hb, hml, hown, hts⟩ (o_bitsWith a v jj i (COM (sD v) (sT v) (sBu v)) hv0 (by omega) (COM_in _ _ _) hjj (PP_l hP) ((pre_D hD).weaken (fun _ _ _ h => hLo _ h))) (cwV 2 hts gL_isNextSo_X8_bitsWith rfl rfl rfl (by decide +kernel) ⟨(Nat.le_of_ble_eq_true rfl), (Nat.le_of_ble_eq_true rfl)⟩) (preV hC hS hLo (oW_obj (PP_l hP)) (ci := 7) (q0 := 0) rfl rfl) rfl rfl hl.1 rfl (lv_room (Nat.le_of_ble_eq_true rfl)) dL_isNextSo_63 ⟨(Nat.le_of_ble_eq_true rfl), (Nat.le_of_ble_eq_true rfl)⟩) hP hD hS hA (fun _ => oW_fst) (fun r_173 u_171 H locs q_172 hP hD hS => ?_)
          have hP : PP G (oW G a v u_171 ++ ouW G oa of) H := hP
          have hD : va_D A (oW G a v u_171 ++ ouW G oa of) := hD
          have hje := q_172.2.2.trans hje
          have hjj := q_172.2.1
          refine topE (v' := nI (BTM (sD v) (sT v) i (COM (sD v) (sT v) (sBu v)))) (q_172.1) ?_
          refine gAdd (z := nI ((ABM (sD v) (sT v) (COM (sD v) (sT v) (sBu v)) i) + (BTM (sD v) (sT v) i (COM (sD v) (sT v) (sBu v))))) hx hb dL_isNextSo_66 (nI_add _ _) ?_
          refine lv_istore (lv' := [(5, .int (nI ((ABM (sD v) (sT v) (COM (sD v) (sT v) (sBu v)) i) + (BTM (sD v) (sT v) i (COM (sD v) (sT v) (sBu v)))))), (0, .ref (a 0)), (1, .int (nI (1))), (2, .ref oa), (3, .int (nI (COM (sD v) (sT v) (sBu v)))), (4, .int (nI (BITS v))), (6, .int (nI (sBi v))), (7, .int (nI (sPi v))), (8, .int (iI (sZ (fun j => ((sT v j - sG v j).natAbs : Int)) 64))), (9, .int (nI (0))), (10, .int (nI (i)))]) hx hb dL_isNextSo_67 hl (by decide) rfl (fun ls hl => ?_)
          refine lv_iinc (v := nI (i + 1)) (lv' := [(10, .int (nI (i + 1))), (5, .int (nI ((ABM (sD v) (sT v) (COM (sD v) (sT v) (sBu v)) i) + (BTM (sD v) (sT v) i (COM (sD v) (sT v) (sBu v)))))), (0, .ref (a 0)), (1, .int (nI (1))), (2, .ref oa), (3, .int (nI (COM (sD v) (sT v) (sBu v)))), (4, .int (nI (BITS v))), (6, .int (nI (sBi v))), (7, .int (nI (sPi v))), (8, .int (iI (sZ (fun j => ((sT v j - sG v j).natAbs : Int)) 64))), (9, .int (nI (0)))]) hx hb dL_isNextSo_69 hl (k := 10) rfl (inc_p i 1) (by decide) rfl (fun ls hl => ?_)
          refine lv_goto (tgt := 41) hx hb dL_isNextSo_72 (by decide) ?_
          exact ih_41 (i + 1) u_171 (by omega) (by omega) hjj hje H locs ls hP hD hS (lv_sub hl [2, 3, 4, 5, 6, 1, 7, 8, 9, 10, 0] ((lvc rfl (lvc rfl (lvc rfl (lvc rfl (lvc rfl (lvc (congrArg Value.int (rfl)) (lvc rfl (lvc rfl (lvc rfl (lvc rfl (lvc (congrArg Value.int (rfl)) rfl)))))))))))))
        · have f_174 : ¬ (0 : Int) = (0 : Int) := fun z => c_169 ((c_eq (nI_toInt (n := 0) (by omega)) rfl).mpr z)
          exfalso; omega
  exact L_41 (4 + 1) 0 u_4 (Nat.lt_succ_self _) (by omega) hjj hje H locs ls hP hD hS (lv_sub hl [8, 9, 10, 7, 6, 5, 4, 3, 2, 1, 0] (lvc rfl (lvc rfl (lvc rfl (lvc rfl (lvc rfl (lvc (congrArg Value.int (rfl)) (lvc rfl (lvc rfl (lvc rfl (lvc rfl (lvc rfl rfl))))))))))))
