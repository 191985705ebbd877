def acA (x0 : Int32) : Nat × Int32 × Int32 × Int32 :=
  if (4 : Int) ≤ Int32.toInt (lowI x0 20) then (if (9 : Int) ≤ Int32.toInt (lowI x0 20) then (if (13 : Int) ≤ Int32.toInt (lowI x0 20) then (if (18 : Int) ≤ Int32.toInt (lowI x0 20) then (if Int32.toInt (lowI x0 20) = (18 : Int)
      then (4, lowI (x0 >>> (nI (5) &&& 31)) (if Int32.toInt (lowI (x0 >>> (nI (22) &&& 31)) 9) ≤ 0 then 320 else 297) + (if Int32.toInt (lowI (x0 >>> (nI (22) &&& 31)) 9) ≤ 0 then nI 0 else nI 4), nI 0, nI 0)
      else (5, lowI (x0 >>> (nI (5) &&& 31)) (if Int32.toInt (lowI (x0 >>> (nI (22) &&& 31)) 9) ≤ 0 then 25 else 20) + (if Int32.toInt (lowI (x0 >>> (nI (22) &&& 31)) 9) ≤ 0 then nI 0 else nI 1), nI 0, nI 0))
    else (3, (if ((x0 >>> (nI (5) &&& 31)) &&& nI (3) : Int32) = 0 then nI 1 else nI 0), nI 0, nI 0))
    else (2, lowI (x0 >>> (nI (5) &&& 31)) (if Int32.toInt (lowI (x0 >>> (nI (22) &&& 31)) 9) ≤ 0 then 8 else 5) - nI 2, lowI ((x0 >>> (nI (5) &&& 31)) >>> (nI (3) &&& 31)) 5 - nI 2, nI 0))
    else (1, lowI (x0 >>> (nI (5) &&& 31)) (if Int32.toInt (lowI (x0 >>> (nI (22) &&& 31)) 9) ≤ 0 then 70 else 64), lowI ((x0 >>> (nI (5) &&& 31)) >>> (nI (6) &&& 31)) 8 + (if Int32.toInt (lowI (x0 >>> (nI (22) &&& 31)) 9) ≤ 0 then nI 0 else nI 1), nI 100 * (nI 1 + lowI ((x0 >>> (nI (5) &&& 31)) >>> (nI (9) &&& 31)) (if Int32.toInt (lowI (x0 >>> (nI (22) &&& 31)) 9) ≤ 0 then 9 else 8)) + lowI ((x0 >>> (nI (5) &&& 31)) >>> (nI (12) &&& 31)) 16))
    else (0, lowI (x0 >>> (nI (5) &&& 31)) (if Int32.toInt (lowI (x0 >>> (nI (22) &&& 31)) 9) ≤ 0 then 80 else 64), lowI ((x0 >>> (nI (5) &&& 31)) >>> (nI (6) &&& 31)) (if Int32.toInt (lowI (x0 >>> (nI (22) &&& 31)) 9) ≤ 0 then 20 else 16), nI 0)
set_option maxHeartbeats 4000000 in
set_option maxRecDepth 100000 in
theorem c_L_act {l : Launch} {G : GT} {H0 : Heap} (a : Nat → Nat) (v : SVT) (j : JT) (oa : Nat) (of : Nat → Int32) (x0 : Int32) (hv : OKS v) (hpi : sPi v < 999) (hj : OKJ j) (hfl : l.stackTraces = false) (hP0 : PP G (oW G a v j ++ ouW G oa of) H0) (hB0 : va_D (lo G) (oW G a v j ++ ouW G oa of)) : Met l yL_act wsL_act ({ frames := 9, cells := 1, slots := 6, locals := 168 } : Room) (pcX G [.ref (a 0), .int (x0), .ref oa] H0) (qMi G (fun (r : Int32) (u : CT3) => CHP (acA x0).1 (acA x0).2.1 (acA x0).2.2.1 (acA x0).2.2.2 v j of r u) (fun (u : CT3) => oW G a u.1 u.2.1 ++ ouW G oa u.2.2) (oW G a v j ++ ouW G oa of) H0) 1 6 (va_A (oW G a v j ++ ouW G oa of) H0.size) := by
  refine enterNX (cc := cL_act) (maxL := 6) (ret := some .int) (own := RL) (lv := [(0, .ref (a 0)), (1, .int (x0)), (2, .ref oa)]) (by decide) rfl rfl rfl (Nat.le_of_ble_eq_true rfl) ?_
  intro pg ev s m below meth c hx hb hr hts hown hlocks hml hnm hH hCX ls hl
  subst hH
  have hC := hCX.1
  have hLo := va_freeB hB0 hC.2.2.2.1
  have hD := hB0.self (sz := s.heap.size)
  have hS : va_S (va_A (oW G a v j ++ ouW G oa of) s.heap.size) s.heap s.heap [] := va_S.rf
  unfold qMi
  generalize hAe : va_A (oW G a v j ++ ouW G oa of) s.heap.size = A at hD hLo hS ⊢
  have hA : ∀ q, s.heap.size ≤ q → A q := fun q h => by rw [← hAe]; exact Or.inr h
  generalize ([] : List Loc) = locs at hS ⊢
  have hP := hP0
  refine lv_iload_n hx hb dL_act_0 rfl (lv_at hl 1 rfl) ?_
  refine lv_iconst (v := nI (5)) hx hb dL_act_1 (by decide) ?_
  refine g_ishr (z := x0 >>> ((nI (5)) &&& 31)) hx hb dL_act_2 (rfl) ?_
  refine lv_istore_n (lv' := [(3, .int (x0 >>> ((nI (5)) &&& 31))), (0, .ref (a 0)), (1, .int (x0)), (2, .ref oa)]) hx hb dL_act_3 rfl hl (by decide) rfl (fun ls hl => ?_)
  refine lv_iload_n hx hb dL_act_4 rfl (lv_at hl 2 rfl) ?_
  refine lv_bipush (v := nI (22)) hx hb dL_act_5 (by decide) ?_
  refine g_ishr (z := x0 >>> ((nI (22)) &&& 31)) hx hb dL_act_7 (rfl) ?_
  refine lv_bipush (v := nI (9)) hx hb dL_act_8 (by decide) ?_
  refine kPi (va_runS (As := [.int (x0 >>> ((nI (22)) &&& 31)), .int (nI (9))]) (rest := []) ⟨hx, hb, hml, hown, hts⟩ (c_L_low (x0 >>> ((nI (22)) &&& 31)) 9 (by first | assumption | omega)) (va_cwS 2 hts gL_act_L_low rfl rfl rfl (by decide +kernel) ⟨Nat.le_of_ble_eq_true rfl, Nat.le_of_ble_eq_true rfl⟩) (preS hC hS hLo) rfl rfl hl.1 rfl (lv_room (Nat.le_of_ble_eq_true rfl)) dL_act_10 ⟨Nat.zero_le _, Nat.zero_le _⟩) hS (fun locs hS => ?_)
  refine lv_if_le (tgt := 20) hx hb dL_act_13 (by decide) (fun c_1 => ?_) (fun c_1 => ?_)
  · have f_2 : Int32.toInt (lowI (x0 >>> ((nI (22)) &&& 31)) 9) ≤ (0 : Int) := (c_le rfl rfl).mp c_1
    refine lv_iconst (v := nI (0)) hx hb dL_act_20 (by decide) ?_
    refine lv_istore (lv' := [(4, .int (nI (0))), (3, .int (x0 >>> ((nI (5)) &&& 31))), (0, .ref (a 0)), (1, .int (x0)), (2, .ref oa)]) hx hb dL_act_21 hl (by decide) rfl (fun ls hl => ?_)
    refine lv_iload_n hx hb dL_act_23 rfl (lv_at hl 3 rfl) ?_
    refine lv_bipush (v := nI (20)) hx hb dL_act_24 (by decide) ?_
    refine kPi (va_runS (As := [.int (x0), .int (nI (20))]) (rest := []) ⟨hx, hb, hml, hown, hts⟩ (c_L_low x0 20 (by first | assumption | omega)) (va_cwS 2 hts gL_act_L_low rfl rfl rfl (by decide +kernel) ⟨Nat.le_of_ble_eq_true rfl, Nat.le_of_ble_eq_true rfl⟩) (preS hC hS hLo) rfl rfl hl.1 rfl (lv_room (Nat.le_of_ble_eq_true rfl)) dL_act_26 ⟨Nat.zero_le _, Nat.zero_le _⟩) hS (fun locs hS => ?_)
    refine lv_istore (lv' := [(5, .int (lowI x0 20)), (4, .int (nI (0))), (3, .int (x0 >>> ((nI (5)) &&& 31))), (0, .ref (a 0)), (1, .int (x0)), (2, .ref oa)]) hx hb dL_act_29 hl (by decide) rfl (fun ls hl => ?_)
    refine lv_iload hx hb dL_act_31 (lv_at hl 0 rfl) ?_
    refine lv_iconst (v := nI (4)) hx hb dL_act_33 (by decide) ?_
    refine lv_icmp_ge (tgt := 80) hx hb dL_act_34 (by decide) (fun c_3 => ?_) (fun c_3 => ?_)
    · have f_4 : (4 : Int) ≤ Int32.toInt (lowI x0 20) := (c_le (nI_toInt (n := 4) (by omega)) rfl).mp c_3
      refine lv_iload hx hb dL_act_80 (lv_at hl 0 rfl) ?_
      refine lv_bipush (v := nI (9)) hx hb dL_act_82 (by decide) ?_
      refine lv_icmp_ge (tgt := 164) hx hb dL_act_84 (by decide) (fun c_5 => ?_) (fun c_5 => ?_)
      · have f_6 : (9 : Int) ≤ Int32.toInt (lowI x0 20) := (c_le (nI_toInt (n := 9) (by omega)) rfl).mp c_5
        refine lv_iload hx hb dL_act_164 (lv_at hl 0 rfl) ?_
        refine lv_bipush (v := nI (13)) hx hb dL_act_166 (by decide) ?_
        refine lv_icmp_ge (tgt := 205) hx hb dL_act_168 (by decide) (fun c_7 => ?_) (fun c_7 => ?_)
        · have f_8 : (13 : Int) ≤ Int32.toInt (lowI x0 20) := (c_le (nI_toInt (n := 13) (by omega)) rfl).mp c_7
          refine lv_iload hx hb dL_act_205 (lv_at hl 0 rfl) ?_
          refine lv_bipush (v := nI (18)) hx hb dL_act_207 (by decide) ?_
          refine lv_icmp_ge (tgt := 234) hx hb dL_act_209 (by decide) (fun c_9 => ?_) (fun c_9 => ?_)
          · have f_10 : (18 : Int) ≤ Int32.toInt (lowI x0 20) := (c_le (nI_toInt (n := 18) (by omega)) rfl).mp c_9
            refine lv_iload hx hb dL_act_234 (lv_at hl 0 rfl) ?_
            refine lv_bipush (v := nI (18)) hx hb dL_act_236 (by decide) ?_
            refine lv_icmp_ne (tgt := 281) hx hb dL_act_238 (by decide) (fun c_11 => ?_) (fun c_11 => ?_)
            · have f_12 : ¬ Int32.toInt (lowI x0 20) = (18 : Int) := fun z => c_11 ((c_eq rfl (nI_toInt (n := 18) (by omega))).mpr z)
              refine lv_aload_n hx hb dL_act_281 rfl (lv_at hl 3 rfl) ?_
              refine lv_iconst (v := nI (5)) hx hb dL_act_282 (by decide) ?_
              refine lv_iload_n hx hb dL_act_283 rfl (lv_at hl 2 rfl) ?_
              refine lv_iload hx hb dL_act_284 (lv_at hl 1 rfl) ?_
              refine lv_if_eq (tgt := 294) hx hb dL_act_286 (by decide) (fun c_13 => ?_) (fun c_13 => ?_)
              · have f_14 : (0 : Int) = (0 : Int) := (c_eq (nI_toInt (n := 0) (by omega)) rfl).mp c_13
                refine lv_bipush (v := nI (25)) hx hb dL_act_294 (by decide) ?_
                refine kPi (va_runS (As := [.int (x0 >>> ((nI (5)) &&& 31)), .int (nI (25))]) (rest := [.int (nI (5)), .ref (a 0)]) ⟨hx, hb, hml, hown, hts⟩ (c_L_low (x0 >>> ((nI (5)) &&& 31)) 25 (by first | assumption | omega)) (va_cwS 2 hts gL_act_L_low rfl rfl rfl (by decide +kernel) ⟨Nat.le_of_ble_eq_true rfl, Nat.le_of_ble_eq_true rfl⟩) (preS hC hS hLo) rfl rfl hl.1 rfl (lv_room (Nat.le_of_ble_eq_true rfl)) dL_act_296 ⟨Nat.zero_le _, Nat.zero_le _⟩) hS (fun locs hS => ?_)
                refine lv_iload hx hb dL_act_299 (lv_at hl 1 rfl) ?_
                refine lv_if_eq (tgt := 308) hx hb dL_act_301 (by decide) (fun c_15 => ?_) (fun c_15 => ?_)
                · have f_16 : (0 : Int) = (0 : Int) := (c_eq (nI_toInt (n := 0) (by omega)) rfl).mp c_15
                  refine lv_iconst (v := nI (0)) hx hb dL_act_308 (by decide) ?_
                  refine gAdd (z := (lowI (x0 >>> ((nI (5)) &&& 31)) 25) + (nI (0))) hx hb dL_act_309 (rfl) ?_
                  refine lv_iconst (v := nI (0)) hx hb dL_act_310 (by decide) ?_
                  refine lv_iconst (v := nI (0)) hx hb dL_act_311 (by decide) ?_
                  refine lv_aload_n hx hb dL_act_312 rfl (lv_at hl 5 rfl) ?_
                  refine kWi (vx_runSW (As := [.ref (a 0), .int (nI (5)), .int ((lowI (x0 >>> ((nI (5)) &&& 31)) 25) + (nI (0))), .int (nI (0)), .int (nI (0)), .ref oa]) (rest := []) ⟨hx, hb, hml, hown, hts⟩ (o_chg_5 a v j oa of ((lowI (x0 >>> ((nI (5)) &&& 31)) 25) + (nI (0))) (nI (0)) (nI (0)) hv hpi hj hfl hP (hD.weaken (fun _ _ _ h => hLo _ h))) (vx_cwSW 6 hts gL_act_L_changes rfl rfl rfl (by decide +kernel) ⟨(Nat.le_of_ble_eq_true rfl), (Nat.le_of_ble_eq_true rfl)⟩) (preSX hCX hS hLo) rfl rfl hl.1 rfl (lv_room (Nat.le_of_ble_eq_true rfl)) dL_act_313 ⟨(Nat.le_of_ble_eq_true rfl), (Nat.le_of_ble_eq_true rfl)⟩) hP hD hS hA (fun _ => ou_fst) (fun r_17 u_18 H locs q_19 hP hD hS => ?_)
                  have hac : acA x0 = (5, (lowI (x0 >>> ((nI (5)) &&& 31)) 25) + (nI (0)), nI (0), nI (0)) := by simp only [acA, if_pos f_2, if_pos f_4, if_pos f_6, if_pos f_8, if_pos f_10, if_neg f_12, if_pos f_14, if_pos f_16]
                  have hP : PP G (oW G a u_18.1 u_18.2.1 ++ ouW G oa u_18.2.2) H := hP
                  have hD : va_D A (oW G a u_18.1 u_18.2.1 ++ ouW G oa u_18.2.2) := hD
                  exact xMi (G := G) (post := (fun (r : Int32) (u : CT3) => CHP (acA x0).1 (acA x0).2.1 (acA x0).2.2.1 (acA x0).2.2.2 v j of r u)) (w1 := (fun (u : CT3) => oW G a u.1 u.2.1 ++ ouW G oa u.2.2)) (u_18) hx hb hr hlocks hP hS (by exact (by rw [hac]; exact q_19)) (by exact rfl) dL_act_316
                · have f_20 : ¬ (0 : Int) = (0 : Int) := fun z => c_15 ((c_eq (nI_toInt (n := 0) (by omega)) rfl).mpr z)
                  exfalso; omega
              · have f_21 : ¬ (0 : Int) = (0 : Int) := fun z => c_13 ((c_eq (nI_toInt (n := 0) (by omega)) rfl).mpr z)
                exfalso; omega
            · have f_22 : Int32.toInt (lowI x0 20) = (18 : Int) := (c_eq rfl (nI_toInt (n := 18) (by omega))).mp c_11
              refine lv_aload_n hx hb dL_act_241 rfl (lv_at hl 3 rfl) ?_
              refine lv_iconst (v := nI (4)) hx hb dL_act_242 (by decide) ?_
              refine lv_iload_n hx hb dL_act_243 rfl (lv_at hl 2 rfl) ?_
              refine lv_iload hx hb dL_act_244 (lv_at hl 1 rfl) ?_
              refine lv_if_eq (tgt := 255) hx hb dL_act_246 (by decide) (fun c_23 => ?_) (fun c_23 => ?_)
              · have f_24 : (0 : Int) = (0 : Int) := (c_eq (nI_toInt (n := 0) (by omega)) rfl).mp c_23
                refine lv_sipush (v := nI (320)) hx hb dL_act_255 (by decide) ?_
                refine kPi (va_runS (As := [.int (x0 >>> ((nI (5)) &&& 31)), .int (nI (320))]) (rest := [.int (nI (4)), .ref (a 0)]) ⟨hx, hb, hml, hown, hts⟩ (c_L_low (x0 >>> ((nI (5)) &&& 31)) 320 (by first | assumption | omega)) (va_cwS 2 hts gL_act_L_low rfl rfl rfl (by decide +kernel) ⟨Nat.le_of_ble_eq_true rfl, Nat.le_of_ble_eq_true rfl⟩) (preS hC hS hLo) rfl rfl hl.1 rfl (lv_room (Nat.le_of_ble_eq_true rfl)) dL_act_258 ⟨Nat.zero_le _, Nat.zero_le _⟩) hS (fun locs hS => ?_)
                refine lv_iload hx hb dL_act_261 (lv_at hl 1 rfl) ?_
                refine lv_if_eq (tgt := 270) hx hb dL_act_263 (by decide) (fun c_25 => ?_) (fun c_25 => ?_)
                · have f_26 : (0 : Int) = (0 : Int) := (c_eq (nI_toInt (n := 0) (by omega)) rfl).mp c_25
                  refine lv_iconst (v := nI (0)) hx hb dL_act_270 (by decide) ?_
                  refine gAdd (z := (lowI (x0 >>> ((nI (5)) &&& 31)) 320) + (nI (0))) hx hb dL_act_271 (rfl) ?_
                  refine lv_iconst (v := nI (0)) hx hb dL_act_272 (by decide) ?_
                  refine lv_iconst (v := nI (0)) hx hb dL_act_273 (by decide) ?_
                  refine lv_aload_n hx hb dL_act_274 rfl (lv_at hl 5 rfl) ?_
                  refine kWi (vx_runSW (As := [.ref (a 0), .int (nI (4)), .int ((lowI (x0 >>> ((nI (5)) &&& 31)) 320) + (nI (0))), .int (nI (0)), .int (nI (0)), .ref oa]) (rest := []) ⟨hx, hb, hml, hown, hts⟩ (o_chg_4 a v j oa of ((lowI (x0 >>> ((nI (5)) &&& 31)) 320) + (nI (0))) (nI (0)) (nI (0)) hv hpi hj hfl hP (hD.weaken (fun _ _ _ h => hLo _ h))) (vx_cwSW 6 hts gL_act_L_changes rfl rfl rfl (by decide +kernel) ⟨(Nat.le_of_ble_eq_true rfl), (Nat.le_of_ble_eq_true rfl)⟩) (preSX hCX hS hLo) rfl rfl hl.1 rfl (lv_room (Nat.le_of_ble_eq_true rfl)) dL_act_275 ⟨(Nat.le_of_ble_eq_true rfl), (Nat.le_of_ble_eq_true rfl)⟩) hP hD hS hA (fun _ => ou_fst) (fun r_27 u_28 H locs q_29 hP hD hS => ?_)
                  have hac : acA x0 = (4, (lowI (x0 >>> ((nI (5)) &&& 31)) 320) + (nI (0)), nI (0), nI (0)) := by simp only [acA, if_pos f_2, if_pos f_4, if_pos f_6, if_pos f_8, if_pos f_10, if_pos f_22, if_pos f_24, if_pos f_26]
                  have hP : PP G (oW G a u_28.1 u_28.2.1 ++ ouW G oa u_28.2.2) H := hP
                  have hD : va_D A (oW G a u_28.1 u_28.2.1 ++ ouW G oa u_28.2.2) := hD
                  refine lv_goto (tgt := 316) hx hb dL_act_278 (by decide) ?_
                  exact xMi (G := G) (post := (fun (r : Int32) (u : CT3) => CHP (acA x0).1 (acA x0).2.1 (acA x0).2.2.1 (acA x0).2.2.2 v j of r u)) (w1 := (fun (u : CT3) => oW G a u.1 u.2.1 ++ ouW G oa u.2.2)) (u_28) hx hb hr hlocks hP hS (by exact (by rw [hac]; exact q_29)) (by exact rfl) dL_act_316
                · have f_30 : ¬ (0 : Int) = (0 : Int) := fun z => c_25 ((c_eq (nI_toInt (n := 0) (by omega)) rfl).mpr z)
                  exfalso; omega
              · have f_31 : ¬ (0 : Int) = (0 : Int) := fun z => c_23 ((c_eq (nI_toInt (n := 0) (by omega)) rfl).mpr z)
                exfalso; omega
          · have f_32 : ¬ (18 : Int) ≤ Int32.toInt (lowI x0 20) := fun z => c_9 ((c_le (nI_toInt (n := 18) (by omega)) rfl).mpr z)
            refine lv_aload_n hx hb dL_act_212 rfl (lv_at hl 3 rfl) ?_
            refine lv_iconst (v := nI (3)) hx hb dL_act_213 (by decide) ?_
            refine lv_iload_n hx hb dL_act_214 rfl (lv_at hl 2 rfl) ?_
            refine lv_iconst (v := nI (3)) hx hb dL_act_215 (by decide) ?_
            refine g_iand (z := (x0 >>> ((nI (5)) &&& 31)) &&& (nI (3))) hx hb dL_act_216 (rfl) ?_
            refine lv_if_ne (tgt := 224) hx hb dL_act_217 (by decide) (fun c_33 => ?_) (fun c_33 => ?_)
            · have f_34 : ¬ ((x0 >>> ((nI (5)) &&& 31)) &&& (nI (3)) : Int32) = 0 := c_33
              refine lv_iconst (v := nI (0)) hx hb dL_act_224 (by decide) ?_
              refine lv_iconst (v := nI (0)) hx hb dL_act_225 (by decide) ?_
              refine lv_iconst (v := nI (0)) hx hb dL_act_226 (by decide) ?_
              refine lv_aload_n hx hb dL_act_227 rfl (lv_at hl 5 rfl) ?_
              refine kWi (vx_runSW (As := [.ref (a 0), .int (nI (3)), .int (nI (0)), .int (nI (0)), .int (nI (0)), .ref oa]) (rest := []) ⟨hx, hb, hml, hown, hts⟩ (o_chg_3 a v j oa of (nI (0)) (nI (0)) (nI (0)) (Or.inl rfl) hv hpi hj hfl hP (hD.weaken (fun _ _ _ h => hLo _ h))) (vx_cwSW 6 hts gL_act_L_changes rfl rfl rfl (by decide +kernel) ⟨(Nat.le_of_ble_eq_true rfl), (Nat.le_of_ble_eq_true rfl)⟩) (preSX hCX hS hLo) rfl rfl hl.1 rfl (lv_room (Nat.le_of_ble_eq_true rfl)) dL_act_228 ⟨(Nat.le_of_ble_eq_true rfl), (Nat.le_of_ble_eq_true rfl)⟩) hP hD hS hA (fun _ => ou_fst) (fun r_35 u_36 H locs q_37 hP hD hS => ?_)
              have hac : acA x0 = (3, nI (0), nI (0), nI (0)) := by simp only [acA, if_pos f_2, if_pos f_4, if_pos f_6, if_pos f_8, if_neg f_32, if_neg f_34]
              have hP : PP G (oW G a u_36.1 u_36.2.1 ++ ouW G oa u_36.2.2) H := hP
              have hD : va_D A (oW G a u_36.1 u_36.2.1 ++ ouW G oa u_36.2.2) := hD
              refine lv_goto (tgt := 316) hx hb dL_act_231 (by decide) ?_
              exact xMi (G := G) (post := (fun (r : Int32) (u : CT3) => CHP (acA x0).1 (acA x0).2.1 (acA x0).2.2.1 (acA x0).2.2.2 v j of r u)) (w1 := (fun (u : CT3) => oW G a u.1 u.2.1 ++ ouW G oa u.2.2)) (u_36) hx hb hr hlocks hP hS (by exact (by rw [hac]; exact q_37)) (by exact rfl) dL_act_316
            · have f_38 : ((x0 >>> ((nI (5)) &&& 31)) &&& (nI (3)) : Int32) = 0 := c_33
              refine lv_iconst (v := nI (1)) hx hb dL_act_220 (by decide) ?_
              refine lv_goto (tgt := 225) hx hb dL_act_221 (by decide) ?_
              refine lv_iconst (v := nI (0)) hx hb dL_act_225 (by decide) ?_
              refine lv_iconst (v := nI (0)) hx hb dL_act_226 (by decide) ?_
              refine lv_aload_n hx hb dL_act_227 rfl (lv_at hl 5 rfl) ?_
              refine kWi (vx_runSW (As := [.ref (a 0), .int (nI (3)), .int (nI (1)), .int (nI (0)), .int (nI (0)), .ref oa]) (rest := []) ⟨hx, hb, hml, hown, hts⟩ (o_chg_3 a v j oa of (nI (1)) (nI (0)) (nI (0)) (Or.inr rfl) hv hpi hj hfl hP (hD.weaken (fun _ _ _ h => hLo _ h))) (vx_cwSW 6 hts gL_act_L_changes rfl rfl rfl (by decide +kernel) ⟨(Nat.le_of_ble_eq_true rfl), (Nat.le_of_ble_eq_true rfl)⟩) (preSX hCX hS hLo) rfl rfl hl.1 rfl (lv_room (Nat.le_of_ble_eq_true rfl)) dL_act_228 ⟨(Nat.le_of_ble_eq_true rfl), (Nat.le_of_ble_eq_true rfl)⟩) hP hD hS hA (fun _ => ou_fst) (fun r_39 u_40 H locs q_41 hP hD hS => ?_)
              have hac : acA x0 = (3, nI (1), nI (0), nI (0)) := by simp only [acA, if_pos f_2, if_pos f_4, if_pos f_6, if_pos f_8, if_neg f_32, if_pos f_38]
              have hP : PP G (oW G a u_40.1 u_40.2.1 ++ ouW G oa u_40.2.2) H := hP
              have hD : va_D A (oW G a u_40.1 u_40.2.1 ++ ouW G oa u_40.2.2) := hD
              refine lv_goto (tgt := 316) hx hb dL_act_231 (by decide) ?_
              exact xMi (G := G) (post := (fun (r : Int32) (u : CT3) => CHP (acA x0).1 (acA x0).2.1 (acA x0).2.2.1 (acA x0).2.2.2 v j of r u)) (w1 := (fun (u : CT3) => oW G a u.1 u.2.1 ++ ouW G oa u.2.2)) (u_40) hx hb hr hlocks hP hS (by exact (by rw [hac]; exact q_41)) (by exact rfl) dL_act_316
        · have f_42 : ¬ (13 : Int) ≤ Int32.toInt (lowI x0 20) := fun z => c_7 ((c_le (nI_toInt (n := 13) (by omega)) rfl).mpr z)
          refine lv_aload_n hx hb dL_act_171 rfl (lv_at hl 3 rfl) ?_
          refine lv_iconst (v := nI (2)) hx hb dL_act_172 (by decide) ?_
          refine lv_iload_n hx hb dL_act_173 rfl (lv_at hl 2 rfl) ?_
          refine lv_iload hx hb dL_act_174 (lv_at hl 1 rfl) ?_
          refine lv_if_eq (tgt := 183) hx hb dL_act_176 (by decide) (fun c_43 => ?_) (fun c_43 => ?_)
          · have f_44 : (0 : Int) = (0 : Int) := (c_eq (nI_toInt (n := 0) (by omega)) rfl).mp c_43
            refine lv_bipush (v := nI (8)) hx hb dL_act_183 (by decide) ?_
            refine kPi (va_runS (As := [.int (x0 >>> ((nI (5)) &&& 31)), .int (nI (8))]) (rest := [.int (nI (2)), .ref (a 0)]) ⟨hx, hb, hml, hown, hts⟩ (c_L_low (x0 >>> ((nI (5)) &&& 31)) 8 (by first | assumption | omega)) (va_cwS 2 hts gL_act_L_low rfl rfl rfl (by decide +kernel) ⟨Nat.le_of_ble_eq_true rfl, Nat.le_of_ble_eq_true rfl⟩) (preS hC hS hLo) rfl rfl hl.1 rfl (lv_room (Nat.le_of_ble_eq_true rfl)) dL_act_185 ⟨Nat.zero_le _, Nat.zero_le _⟩) hS (fun locs hS => ?_)
            refine lv_iconst (v := nI (2)) hx hb dL_act_188 (by decide) ?_
            refine gSub (z := (lowI (x0 >>> ((nI (5)) &&& 31)) 8) - (nI (2))) hx hb dL_act_189 (rfl) ?_
            refine lv_iload_n hx hb dL_act_190 rfl (lv_at hl 2 rfl) ?_
            refine lv_iconst (v := nI (3)) hx hb dL_act_191 (by decide) ?_
            refine g_ishr (z := (x0 >>> ((nI (5)) &&& 31)) >>> ((nI (3)) &&& 31)) hx hb dL_act_192 (rfl) ?_
            refine lv_iconst (v := nI (5)) hx hb dL_act_193 (by decide) ?_
            refine kPi (va_runS (As := [.int ((x0 >>> ((nI (5)) &&& 31)) >>> ((nI (3)) &&& 31)), .int (nI (5))]) (rest := [.int ((lowI (x0 >>> ((nI (5)) &&& 31)) 8) - (nI (2))), .int (nI (2)), .ref (a 0)]) ⟨hx, hb, hml, hown, hts⟩ (c_L_low ((x0 >>> ((nI (5)) &&& 31)) >>> ((nI (3)) &&& 31)) 5 (by first | assumption | omega)) (va_cwS 2 hts gL_act_L_low rfl rfl rfl (by decide +kernel) ⟨Nat.le_of_ble_eq_true rfl, Nat.le_of_ble_eq_true rfl⟩) (preS hC hS hLo) rfl rfl hl.1 rfl (lv_room (Nat.le_of_ble_eq_true rfl)) dL_act_194 ⟨Nat.zero_le _, Nat.zero_le _⟩) hS (fun locs hS => ?_)
            refine lv_iconst (v := nI (2)) hx hb dL_act_197 (by decide) ?_
            refine gSub (z := (lowI ((x0 >>> ((nI (5)) &&& 31)) >>> ((nI (3)) &&& 31)) 5) - (nI (2))) hx hb dL_act_198 (rfl) ?_
            refine lv_iconst (v := nI (0)) hx hb dL_act_199 (by decide) ?_
            refine lv_aload_n hx hb dL_act_200 rfl (lv_at hl 5 rfl) ?_
            refine kWi (vx_runSW (As := [.ref (a 0), .int (nI (2)), .int ((lowI (x0 >>> ((nI (5)) &&& 31)) 8) - (nI (2))), .int ((lowI ((x0 >>> ((nI (5)) &&& 31)) >>> ((nI (3)) &&& 31)) 5) - (nI (2))), .int (nI (0)), .ref oa]) (rest := []) ⟨hx, hb, hml, hown, hts⟩ (o_chg_2 a v j oa of ((lowI (x0 >>> ((nI (5)) &&& 31)) 8) - (nI (2))) ((lowI ((x0 >>> ((nI (5)) &&& 31)) >>> ((nI (3)) &&& 31)) 5) - (nI (2))) (nI (0)) hv hpi hj hfl hP (hD.weaken (fun _ _ _ h => hLo _ h))) (vx_cwSW 6 hts gL_act_L_changes rfl rfl rfl (by decide +kernel) ⟨(Nat.le_of_ble_eq_true rfl), (Nat.le_of_ble_eq_true rfl)⟩) (preSX hCX hS hLo) rfl rfl hl.1 rfl (lv_room (Nat.le_of_ble_eq_true rfl)) dL_act_201 ⟨(Nat.le_of_ble_eq_true rfl), (Nat.le_of_ble_eq_true rfl)⟩) hP hD hS hA (fun _ => ou_fst) (fun r_45 u_46 H locs q_47 hP hD hS => ?_)
            have hac : acA x0 = (2, (lowI (x0 >>> ((nI (5)) &&& 31)) 8) - (nI (2)), (lowI ((x0 >>> ((nI (5)) &&& 31)) >>> ((nI (3)) &&& 31)) 5) - (nI (2)), nI (0)) := by simp only [acA, if_pos f_2, if_pos f_4, if_pos f_6, if_neg f_42, if_pos f_44]
            have hP : PP G (oW G a u_46.1 u_46.2.1 ++ ouW G oa u_46.2.2) H := hP
            have hD : va_D A (oW G a u_46.1 u_46.2.1 ++ ouW G oa u_46.2.2) := hD
            exact xMi (G := G) (post := (fun (r : Int32) (u : CT3) => CHP (acA x0).1 (acA x0).2.1 (acA x0).2.2.1 (acA x0).2.2.2 v j of r u)) (w1 := (fun (u : CT3) => oW G a u.1 u.2.1 ++ ouW G oa u.2.2)) (u_46) hx hb hr hlocks hP hS (by exact (by rw [hac]; exact q_47)) (by exact rfl) dL_act_204
          · have f_48 : ¬ (0 : Int) = (0 : Int) := fun z => c_43 ((c_eq (nI_toInt (n := 0) (by omega)) rfl).mpr z)
            exfalso; omega
      · have f_49 : ¬ (9 : Int) ≤ Int32.toInt (lowI x0 20) := fun z => c_5 ((c_le (nI_toInt (n := 9) (by omega)) rfl).mpr z)
        refine lv_aload_n hx hb dL_act_87 rfl (lv_at hl 3 rfl) ?_
        refine lv_iconst (v := nI (1)) hx hb dL_act_88 (by decide) ?_
        refine lv_iload_n hx hb dL_act_89 rfl (lv_at hl 2 rfl) ?_
        refine lv_iload hx hb dL_act_90 (lv_at hl 1 rfl) ?_
        refine lv_if_eq (tgt := 100) hx hb dL_act_92 (by decide) (fun c_50 => ?_) (fun c_50 => ?_)
        · have f_51 : (0 : Int) = (0 : Int) := (c_eq (nI_toInt (n := 0) (by omega)) rfl).mp c_50
          refine lv_bipush (v := nI (70)) hx hb dL_act_100 (by decide) ?_
          refine kPi (va_runS (As := [.int (x0 >>> ((nI (5)) &&& 31)), .int (nI (70))]) (rest := [.int (nI (1)), .ref (a 0)]) ⟨hx, hb, hml, hown, hts⟩ (c_L_low (x0 >>> ((nI (5)) &&& 31)) 70 (by first | assumption | omega)) (va_cwS 2 hts gL_act_L_low rfl rfl rfl (by decide +kernel) ⟨Nat.le_of_ble_eq_true rfl, Nat.le_of_ble_eq_true rfl⟩) (preS hC hS hLo) rfl rfl hl.1 rfl (lv_room (Nat.le_of_ble_eq_true rfl)) dL_act_102 ⟨Nat.zero_le _, Nat.zero_le _⟩) hS (fun locs hS => ?_)
          refine lv_iload_n hx hb dL_act_105 rfl (lv_at hl 2 rfl) ?_
          refine lv_bipush (v := nI (6)) hx hb dL_act_106 (by decide) ?_
          refine g_ishr (z := (x0 >>> ((nI (5)) &&& 31)) >>> ((nI (6)) &&& 31)) hx hb dL_act_108 (rfl) ?_
          refine lv_bipush (v := nI (8)) hx hb dL_act_109 (by decide) ?_
          refine kPi (va_runS (As := [.int ((x0 >>> ((nI (5)) &&& 31)) >>> ((nI (6)) &&& 31)), .int (nI (8))]) (rest := [.int (lowI (x0 >>> ((nI (5)) &&& 31)) 70), .int (nI (1)), .ref (a 0)]) ⟨hx, hb, hml, hown, hts⟩ (c_L_low ((x0 >>> ((nI (5)) &&& 31)) >>> ((nI (6)) &&& 31)) 8 (by first | assumption | omega)) (va_cwS 2 hts gL_act_L_low rfl rfl rfl (by decide +kernel) ⟨Nat.le_of_ble_eq_true rfl, Nat.le_of_ble_eq_true rfl⟩) (preS hC hS hLo) rfl rfl hl.1 rfl (lv_room (Nat.le_of_ble_eq_true rfl)) dL_act_111 ⟨Nat.zero_le _, Nat.zero_le _⟩) hS (fun locs hS => ?_)
          refine lv_iload hx hb dL_act_114 (lv_at hl 1 rfl) ?_
          refine lv_if_eq (tgt := 123) hx hb dL_act_116 (by decide) (fun c_52 => ?_) (fun c_52 => ?_)
          · have f_53 : (0 : Int) = (0 : Int) := (c_eq (nI_toInt (n := 0) (by omega)) rfl).mp c_52
            refine lv_iconst (v := nI (0)) hx hb dL_act_123 (by decide) ?_
            refine gAdd (z := (lowI ((x0 >>> ((nI (5)) &&& 31)) >>> ((nI (6)) &&& 31)) 8) + (nI (0))) hx hb dL_act_124 (rfl) ?_
            refine lv_bipush (v := nI (100)) hx hb dL_act_125 (by decide) ?_
            refine lv_iconst (v := nI (1)) hx hb dL_act_127 (by decide) ?_
            refine lv_iload_n hx hb dL_act_128 rfl (lv_at hl 2 rfl) ?_
            refine lv_bipush (v := nI (9)) hx hb dL_act_129 (by decide) ?_
            refine g_ishr (z := (x0 >>> ((nI (5)) &&& 31)) >>> ((nI (9)) &&& 31)) hx hb dL_act_131 (rfl) ?_
            refine lv_iload hx hb dL_act_132 (lv_at hl 1 rfl) ?_
            refine lv_if_eq (tgt := 142) hx hb dL_act_134 (by decide) (fun c_54 => ?_) (fun c_54 => ?_)
            · have f_55 : (0 : Int) = (0 : Int) := (c_eq (nI_toInt (n := 0) (by omega)) rfl).mp c_54
              refine lv_bipush (v := nI (9)) hx hb dL_act_142 (by decide) ?_
              refine kPi (va_runS (As := [.int ((x0 >>> ((nI (5)) &&& 31)) >>> ((nI (9)) &&& 31)), .int (nI (9))]) (rest := [.int (nI (1)), .int (nI (100)), .int ((lowI ((x0 >>> ((nI (5)) &&& 31)) >>> ((nI (6)) &&& 31)) 8) + (nI (0))), .int (lowI (x0 >>> ((nI (5)) &&& 31)) 70), .int (nI (1)), .ref (a 0)]) ⟨hx, hb, hml, hown, hts⟩ (c_L_low ((x0 >>> ((nI (5)) &&& 31)) >>> ((nI (9)) &&& 31)) 9 (by first | assumption | omega)) (va_cwS 2 hts gL_act_L_low rfl rfl rfl (by decide +kernel) ⟨Nat.le_of_ble_eq_true rfl, Nat.le_of_ble_eq_true rfl⟩) (preS hC hS hLo) rfl rfl hl.1 rfl (lv_room (Nat.le_of_ble_eq_true rfl)) dL_act_144 ⟨Nat.zero_le _, Nat.zero_le _⟩) hS (fun locs hS => ?_)
              refine gAdd (z := (nI (1)) + (lowI ((x0 >>> ((nI (5)) &&& 31)) >>> ((nI (9)) &&& 31)) 9)) hx hb dL_act_147 (rfl) ?_
              refine gMul (z := (nI (100)) * ((nI (1)) + (lowI ((x0 >>> ((nI (5)) &&& 31)) >>> ((nI (9)) &&& 31)) 9))) hx hb dL_act_148 (rfl) ?_
              refine lv_iload_n hx hb dL_act_149 rfl (lv_at hl 2 rfl) ?_
              refine lv_bipush (v := nI (12)) hx hb dL_act_150 (by decide) ?_
              refine g_ishr (z := (x0 >>> ((nI (5)) &&& 31)) >>> ((nI (12)) &&& 31)) hx hb dL_act_152 (rfl) ?_
              refine lv_bipush (v := nI (16)) hx hb dL_act_153 (by decide) ?_
              refine kPi (va_runS (As := [.int ((x0 >>> ((nI (5)) &&& 31)) >>> ((nI (12)) &&& 31)), .int (nI (16))]) (rest := [.int ((nI (100)) * ((nI (1)) + (lowI ((x0 >>> ((nI (5)) &&& 31)) >>> ((nI (9)) &&& 31)) 9))), .int ((lowI ((x0 >>> ((nI (5)) &&& 31)) >>> ((nI (6)) &&& 31)) 8) + (nI (0))), .int (lowI (x0 >>> ((nI (5)) &&& 31)) 70), .int (nI (1)), .ref (a 0)]) ⟨hx, hb, hml, hown, hts⟩ (c_L_low ((x0 >>> ((nI (5)) &&& 31)) >>> ((nI (12)) &&& 31)) 16 (by first | assumption | omega)) (va_cwS 2 hts gL_act_L_low rfl rfl rfl (by decide +kernel) ⟨Nat.le_of_ble_eq_true rfl, Nat.le_of_ble_eq_true rfl⟩) (preS hC hS hLo) rfl rfl hl.1 rfl (lv_room (Nat.le_of_ble_eq_true rfl)) dL_act_155 ⟨Nat.zero_le _, Nat.zero_le _⟩) hS (fun locs hS => ?_)
              refine gAdd (z := ((nI (100)) * ((nI (1)) + (lowI ((x0 >>> ((nI (5)) &&& 31)) >>> ((nI (9)) &&& 31)) 9))) + (lowI ((x0 >>> ((nI (5)) &&& 31)) >>> ((nI (12)) &&& 31)) 16)) hx hb dL_act_158 (rfl) ?_
              refine lv_aload_n hx hb dL_act_159 rfl (lv_at hl 5 rfl) ?_
              refine kWi (vx_runSW (As := [.ref (a 0), .int (nI (1)), .int (lowI (x0 >>> ((nI (5)) &&& 31)) 70), .int ((lowI ((x0 >>> ((nI (5)) &&& 31)) >>> ((nI (6)) &&& 31)) 8) + (nI (0))), .int (((nI (100)) * ((nI (1)) + (lowI ((x0 >>> ((nI (5)) &&& 31)) >>> ((nI (9)) &&& 31)) 9))) + (lowI ((x0 >>> ((nI (5)) &&& 31)) >>> ((nI (12)) &&& 31)) 16)), .ref oa]) (rest := []) ⟨hx, hb, hml, hown, hts⟩ (o_chg_1 a v j oa of (lowI (x0 >>> ((nI (5)) &&& 31)) 70) ((lowI ((x0 >>> ((nI (5)) &&& 31)) >>> ((nI (6)) &&& 31)) 8) + (nI (0))) (((nI (100)) * ((nI (1)) + (lowI ((x0 >>> ((nI (5)) &&& 31)) >>> ((nI (9)) &&& 31)) 9))) + (lowI ((x0 >>> ((nI (5)) &&& 31)) >>> ((nI (12)) &&& 31)) 16)) hv hpi hj hfl hP (hD.weaken (fun _ _ _ h => hLo _ h))) (vx_cwSW 6 hts gL_act_L_changes rfl rfl rfl (by decide +kernel) ⟨(Nat.le_of_ble_eq_true rfl), (Nat.le_of_ble_eq_true rfl)⟩) (preSX hCX hS hLo) rfl rfl hl.1 rfl (lv_room (Nat.le_of_ble_eq_true rfl)) dL_act_160 ⟨(Nat.le_of_ble_eq_true rfl), (Nat.le_of_ble_eq_true rfl)⟩) hP hD hS hA (fun _ => ou_fst) (fun r_56 u_57 H locs q_58 hP hD hS => ?_)
              have hac : acA x0 = (1, lowI (x0 >>> ((nI (5)) &&& 31)) 70, (lowI ((x0 >>> ((nI (5)) &&& 31)) >>> ((nI (6)) &&& 31)) 8) + (nI (0)), ((nI (100)) * ((nI (1)) + (lowI ((x0 >>> ((nI (5)) &&& 31)) >>> ((nI (9)) &&& 31)) 9))) + (lowI ((x0 >>> ((nI (5)) &&& 31)) >>> ((nI (12)) &&& 31)) 16)) := by simp only [acA, if_pos f_2, if_pos f_4, if_neg f_49, if_pos f_51, if_pos f_53, if_pos f_55]
              have hP : PP G (oW G a u_57.1 u_57.2.1 ++ ouW G oa u_57.2.2) H := hP
              have hD : va_D A (oW G a u_57.1 u_57.2.1 ++ ouW G oa u_57.2.2) := hD
              exact xMi (G := G) (post := (fun (r : Int32) (u : CT3) => CHP (acA x0).1 (acA x0).2.1 (acA x0).2.2.1 (acA x0).2.2.2 v j of r u)) (w1 := (fun (u : CT3) => oW G a u.1 u.2.1 ++ ouW G oa u.2.2)) (u_57) hx hb hr hlocks hP hS (by exact (by rw [hac]; exact q_58)) (by exact rfl) dL_act_163
            · have f_59 : ¬ (0 : Int) = (0 : Int) := fun z => c_54 ((c_eq (nI_toInt (n := 0) (by omega)) rfl).mpr z)
              exfalso; omega
          · have f_60 : ¬ (0 : Int) = (0 : Int) := fun z => c_52 ((c_eq (nI_toInt (n := 0) (by omega)) rfl).mpr z)
            exfalso; omega
        · have f_61 : ¬ (0 : Int) = (0 : Int) := fun z => c_50 ((c_eq (nI_toInt (n := 0) (by omega)) rfl).mpr z)
          exfalso; omega
    · have f_62 : ¬ (4 : Int) ≤ Int32.toInt (lowI x0 20) := fun z => c_3 ((c_le (nI_toInt (n := 4) (by omega)) rfl).mpr z)
      refine lv_aload_n hx hb dL_act_37 rfl (lv_at hl 3 rfl) ?_
      refine lv_iconst (v := nI (0)) hx hb dL_act_38 (by decide) ?_
      refine lv_iload_n hx hb dL_act_39 rfl (lv_at hl 2 rfl) ?_
      refine lv_iload hx hb dL_act_40 (lv_at hl 1 rfl) ?_
      refine lv_if_eq (tgt := 50) hx hb dL_act_42 (by decide) (fun c_63 => ?_) (fun c_63 => ?_)
      · have f_64 : (0 : Int) = (0 : Int) := (c_eq (nI_toInt (n := 0) (by omega)) rfl).mp c_63
        refine lv_bipush (v := nI (80)) hx hb dL_act_50 (by decide) ?_
        refine kPi (va_runS (As := [.int (x0 >>> ((nI (5)) &&& 31)), .int (nI (80))]) (rest := [.int (nI (0)), .ref (a 0)]) ⟨hx, hb, hml, hown, hts⟩ (c_L_low (x0 >>> ((nI (5)) &&& 31)) 80 (by first | assumption | omega)) (va_cwS 2 hts gL_act_L_low rfl rfl rfl (by decide +kernel) ⟨Nat.le_of_ble_eq_true rfl, Nat.le_of_ble_eq_true rfl⟩) (preS hC hS hLo) rfl rfl hl.1 rfl (lv_room (Nat.le_of_ble_eq_true rfl)) dL_act_52 ⟨Nat.zero_le _, Nat.zero_le _⟩) hS (fun locs hS => ?_)
        refine lv_iload_n hx hb dL_act_55 rfl (lv_at hl 2 rfl) ?_
        refine lv_bipush (v := nI (6)) hx hb dL_act_56 (by decide) ?_
        refine g_ishr (z := (x0 >>> ((nI (5)) &&& 31)) >>> ((nI (6)) &&& 31)) hx hb dL_act_58 (rfl) ?_
        refine lv_iload hx hb dL_act_59 (lv_at hl 1 rfl) ?_
        refine lv_if_eq (tgt := 69) hx hb dL_act_61 (by decide) (fun c_65 => ?_) (fun c_65 => ?_)
        · have f_66 : (0 : Int) = (0 : Int) := (c_eq (nI_toInt (n := 0) (by omega)) rfl).mp c_65
          refine lv_bipush (v := nI (20)) hx hb dL_act_69 (by decide) ?_
          refine kPi (va_runS (As := [.int ((x0 >>> ((nI (5)) &&& 31)) >>> ((nI (6)) &&& 31)), .int (nI (20))]) (rest := [.int (lowI (x0 >>> ((nI (5)) &&& 31)) 80), .int (nI (0)), .ref (a 0)]) ⟨hx, hb, hml, hown, hts⟩ (c_L_low ((x0 >>> ((nI (5)) &&& 31)) >>> ((nI (6)) &&& 31)) 20 (by first | assumption | omega)) (va_cwS 2 hts gL_act_L_low rfl rfl rfl (by decide +kernel) ⟨Nat.le_of_ble_eq_true rfl, Nat.le_of_ble_eq_true rfl⟩) (preS hC hS hLo) rfl rfl hl.1 rfl (lv_room (Nat.le_of_ble_eq_true rfl)) dL_act_71 ⟨Nat.zero_le _, Nat.zero_le _⟩) hS (fun locs hS => ?_)
          refine lv_iconst (v := nI (0)) hx hb dL_act_74 (by decide) ?_
          refine lv_aload_n hx hb dL_act_75 rfl (lv_at hl 5 rfl) ?_
          refine kWi (vx_runSW (As := [.ref (a 0), .int (nI (0)), .int (lowI (x0 >>> ((nI (5)) &&& 31)) 80), .int (lowI ((x0 >>> ((nI (5)) &&& 31)) >>> ((nI (6)) &&& 31)) 20), .int (nI (0)), .ref oa]) (rest := []) ⟨hx, hb, hml, hown, hts⟩ (o_chg_0 a v j oa of (lowI (x0 >>> ((nI (5)) &&& 31)) 80) (lowI ((x0 >>> ((nI (5)) &&& 31)) >>> ((nI (6)) &&& 31)) 20) (nI (0)) hv hpi hj hfl hP (hD.weaken (fun _ _ _ h => hLo _ h))) (vx_cwSW 6 hts gL_act_L_changes rfl rfl rfl (by decide +kernel) ⟨(Nat.le_of_ble_eq_true rfl), (Nat.le_of_ble_eq_true rfl)⟩) (preSX hCX hS hLo) rfl rfl hl.1 rfl (lv_room (Nat.le_of_ble_eq_true rfl)) dL_act_76 ⟨(Nat.le_of_ble_eq_true rfl), (Nat.le_of_ble_eq_true rfl)⟩) hP hD hS hA (fun _ => ou_fst) (fun r_67 u_68 H locs q_69 hP hD hS => ?_)
          have hac : acA x0 = (0, lowI (x0 >>> ((nI (5)) &&& 31)) 80, lowI ((x0 >>> ((nI (5)) &&& 31)) >>> ((nI (6)) &&& 31)) 20, nI (0)) := by simp only [acA, if_pos f_2, if_neg f_62, if_pos f_64, if_pos f_66]
          have hP : PP G (oW G a u_68.1 u_68.2.1 ++ ouW G oa u_68.2.2) H := hP
          have hD : va_D A (oW G a u_68.1 u_68.2.1 ++ ouW G oa u_68.2.2) := hD
          exact xMi (G := G) (post := (fun (r : Int32) (u : CT3) => CHP (acA x0).1 (acA x0).2.1 (acA x0).2.2.1 (acA x0).2.2.2 v j of r u)) (w1 := (fun (u : CT3) => oW G a u.1 u.2.1 ++ ouW G oa u.2.2)) (u_68) hx hb hr hlocks hP hS (by exact (by rw [hac]; exact q_69)) (by exact rfl) dL_act_79
        · have f_70 : ¬ (0 : Int) = (0 : Int) := fun z => c_65 ((c_eq (nI_toInt (n := 0) (by omega)) rfl).mpr z)
          exfalso; omega
      · have f_71 : ¬ (0 : Int) = (0 : Int) := fun z => c_63 ((c_eq (nI_toInt (n := 0) (by omega)) rfl).mpr z)
        exfalso; omega
  · have f_72 : ¬ Int32.toInt (lowI (x0 >>> ((nI (22)) &&& 31)) 9) ≤ (0 : Int) := fun z => c_1 ((c_le rfl rfl).mpr z)
    refine lv_iconst (v := nI (1)) hx hb dL_act_16 (by decide) ?_
    refine lv_goto (tgt := 21) hx hb dL_act_17 (by decide) ?_
    refine lv_istore (lv' := [(4, .int (nI (1))), (3, .int (x0 >>> ((nI (5)) &&& 31))), (0, .ref (a 0)), (1, .int (x0)), (2, .ref oa)]) hx hb dL_act_21 hl (by decide) rfl (fun ls hl => ?_)
    refine lv_iload_n hx hb dL_act_23 rfl (lv_at hl 3 rfl) ?_
    refine lv_bipush (v := nI (20)) hx hb dL_act_24 (by decide) ?_
    refine kPi (va_runS (As := [.int (x0), .int (nI (20))]) (rest := []) ⟨hx, hb, hml, hown, hts⟩ (c_L_low x0 20 (by first | assumption | omega)) (va_cwS 2 hts gL_act_L_low rfl rfl rfl (by decide +kernel) ⟨Nat.le_of_ble_eq_true rfl, Nat.le_of_ble_eq_true rfl⟩) (preS hC hS hLo) rfl rfl hl.1 rfl (lv_room (Nat.le_of_ble_eq_true rfl)) dL_act_26 ⟨Nat.zero_le _, Nat.zero_le _⟩) hS (fun locs hS => ?_)
    refine lv_istore (lv' := [(5, .int (lowI x0 20)), (4, .int (nI (1))), (3, .int (x0 >>> ((nI (5)) &&& 31))), (0, .ref (a 0)), (1, .int (x0)), (2, .ref oa)]) hx hb dL_act_29 hl (by decide) rfl (fun ls hl => ?_)
    refine lv_iload hx hb dL_act_31 (lv_at hl 0 rfl) ?_
    refine lv_iconst (v := nI (4)) hx hb dL_act_33 (by decide) ?_
    refine lv_icmp_ge (tgt := 80) hx hb dL_act_34 (by decide) (fun c_73 => ?_) (fun c_73 => ?_)
    · have f_74 : (4 : Int) ≤ Int32.toInt (lowI x0 20) := (c_le (nI_toInt (n := 4) (by omega)) rfl).mp c_73
      refine lv_iload hx hb dL_act_80 (lv_at hl 0 rfl) ?_
      refine lv_bipush (v := nI (9)) hx hb dL_act_82 (by decide) ?_
      refine lv_icmp_ge (tgt := 164) hx hb dL_act_84 (by decide) (fun c_75 => ?_) (fun c_75 => ?_)
      · have f_76 : (9 : Int) ≤ Int32.toInt (lowI x0 20) := (c_le (nI_toInt (n := 9) (by omega)) rfl).mp c_75
        refine lv_iload hx hb dL_act_164 (lv_at hl 0 rfl) ?_
        refine lv_bipush (v := nI (13)) hx hb dL_act_166 (by decide) ?_
        refine lv_icmp_ge (tgt := 205) hx hb dL_act_168 (by decide) (fun c_77 => ?_) (fun c_77 => ?_)
        · have f_78 : (13 : Int) ≤ Int32.toInt (lowI x0 20) := (c_le (nI_toInt (n := 13) (by omega)) rfl).mp c_77
          refine lv_iload hx hb dL_act_205 (lv_at hl 0 rfl) ?_
          refine lv_bipush (v := nI (18)) hx hb dL_act_207 (by decide) ?_
          refine lv_icmp_ge (tgt := 234) hx hb dL_act_209 (by decide) (fun c_79 => ?_) (fun c_79 => ?_)
          · have f_80 : (18 : Int) ≤ Int32.toInt (lowI x0 20) := (c_le (nI_toInt (n := 18) (by omega)) rfl).mp c_79
            refine lv_iload hx hb dL_act_234 (lv_at hl 0 rfl) ?_
            refine lv_bipush (v := nI (18)) hx hb dL_act_236 (by decide) ?_
            refine lv_icmp_ne (tgt := 281) hx hb dL_act_238 (by decide) (fun c_81 => ?_) (fun c_81 => ?_)
            · have f_82 : ¬ Int32.toInt (lowI x0 20) = (18 : Int) := fun z => c_81 ((c_eq rfl (nI_toInt (n := 18) (by omega))).mpr z)
              refine lv_aload_n hx hb dL_act_281 rfl (lv_at hl 3 rfl) ?_
              refine lv_iconst (v := nI (5)) hx hb dL_act_282 (by decide) ?_
              refine lv_iload_n hx hb dL_act_283 rfl (lv_at hl 2 rfl) ?_
              refine lv_iload hx hb dL_act_284 (lv_at hl 1 rfl) ?_
              refine lv_if_eq (tgt := 294) hx hb dL_act_286 (by decide) (fun c_83 => ?_) (fun c_83 => ?_)
              · have f_84 : (1 : Int) = (0 : Int) := (c_eq (nI_toInt (n := 1) (by omega)) rfl).mp c_83
                exfalso; omega
              · have f_85 : ¬ (1 : Int) = (0 : Int) := fun z => c_83 ((c_eq (nI_toInt (n := 1) (by omega)) rfl).mpr z)
                refine lv_bipush (v := nI (20)) hx hb dL_act_289 (by decide) ?_
                refine lv_goto (tgt := 296) hx hb dL_act_291 (by decide) ?_
                refine kPi (va_runS (As := [.int (x0 >>> ((nI (5)) &&& 31)), .int (nI (20))]) (rest := [.int (nI (5)), .ref (a 0)]) ⟨hx, hb, hml, hown, hts⟩ (c_L_low (x0 >>> ((nI (5)) &&& 31)) 20 (by first | assumption | omega)) (va_cwS 2 hts gL_act_L_low rfl rfl rfl (by decide +kernel) ⟨Nat.le_of_ble_eq_true rfl, Nat.le_of_ble_eq_true rfl⟩) (preS hC hS hLo) rfl rfl hl.1 rfl (lv_room (Nat.le_of_ble_eq_true rfl)) dL_act_296 ⟨Nat.zero_le _, Nat.zero_le _⟩) hS (fun locs hS => ?_)
                refine lv_iload hx hb dL_act_299 (lv_at hl 1 rfl) ?_
                refine lv_if_eq (tgt := 308) hx hb dL_act_301 (by decide) (fun c_86 => ?_) (fun c_86 => ?_)
                · have f_87 : (1 : Int) = (0 : Int) := (c_eq (nI_toInt (n := 1) (by omega)) rfl).mp c_86
                  exfalso; omega
                · have f_88 : ¬ (1 : Int) = (0 : Int) := fun z => c_86 ((c_eq (nI_toInt (n := 1) (by omega)) rfl).mpr z)
                  refine lv_iconst (v := nI (1)) hx hb dL_act_304 (by decide) ?_
                  refine lv_goto (tgt := 309) hx hb dL_act_305 (by decide) ?_
                  refine gAdd (z := (lowI (x0 >>> ((nI (5)) &&& 31)) 20) + (nI (1))) hx hb dL_act_309 (rfl) ?_
                  refine lv_iconst (v := nI (0)) hx hb dL_act_310 (by decide) ?_
                  refine lv_iconst (v := nI (0)) hx hb dL_act_311 (by decide) ?_
                  refine lv_aload_n hx hb dL_act_312 rfl (lv_at hl 5 rfl) ?_
                  refine kWi (vx_runSW (As := [.ref (a 0), .int (nI (5)), .int ((lowI (x0 >>> ((nI (5)) &&& 31)) 20) + (nI (1))), .int (nI (0)), .int (nI (0)), .ref oa]) (rest := []) ⟨hx, hb, hml, hown, hts⟩ (o_chg_5 a v j oa of ((lowI (x0 >>> ((nI (5)) &&& 31)) 20) + (nI (1))) (nI (0)) (nI (0)) hv hpi hj hfl hP (hD.weaken (fun _ _ _ h => hLo _ h))) (vx_cwSW 6 hts gL_act_L_changes rfl rfl rfl (by decide +kernel) ⟨(Nat.le_of_ble_eq_true rfl), (Nat.le_of_ble_eq_true rfl)⟩) (preSX hCX hS hLo) rfl rfl hl.1 rfl (lv_room (Nat.le_of_ble_eq_true rfl)) dL_act_313 ⟨(Nat.le_of_ble_eq_true rfl), (Nat.le_of_ble_eq_true rfl)⟩) hP hD hS hA (fun _ => ou_fst) (fun r_89 u_90 H locs q_91 hP hD hS => ?_)
                  have hac : acA x0 = (5, (lowI (x0 >>> ((nI (5)) &&& 31)) 20) + (nI (1)), nI (0), nI (0)) := by simp only [acA, if_neg f_72, if_pos f_74, if_pos f_76, if_pos f_78, if_pos f_80, if_neg f_82, if_neg f_85, if_neg f_88]
                  have hP : PP G (oW G a u_90.1 u_90.2.1 ++ ouW G oa u_90.2.2) H := hP
                  have hD : va_D A (oW G a u_90.1 u_90.2.1 ++ ouW G oa u_90.2.2) := hD
                  exact xMi (G := G) (post := (fun (r : Int32) (u : CT3) => CHP (acA x0).1 (acA x0).2.1 (acA x0).2.2.1 (acA x0).2.2.2 v j of r u)) (w1 := (fun (u : CT3) => oW G a u.1 u.2.1 ++ ouW G oa u.2.2)) (u_90) hx hb hr hlocks hP hS (by exact (by rw [hac]; exact q_91)) (by exact rfl) dL_act_316
            · have f_92 : Int32.toInt (lowI x0 20) = (18 : Int) := (c_eq rfl (nI_toInt (n := 18) (by omega))).mp c_81
              refine lv_aload_n hx hb dL_act_241 rfl (lv_at hl 3 rfl) ?_
              refine lv_iconst (v := nI (4)) hx hb dL_act_242 (by decide) ?_
              refine lv_iload_n hx hb dL_act_243 rfl (lv_at hl 2 rfl) ?_
              refine lv_iload hx hb dL_act_244 (lv_at hl 1 rfl) ?_
              refine lv_if_eq (tgt := 255) hx hb dL_act_246 (by decide) (fun c_93 => ?_) (fun c_93 => ?_)
              · have f_94 : (1 : Int) = (0 : Int) := (c_eq (nI_toInt (n := 1) (by omega)) rfl).mp c_93
                exfalso; omega
              · have f_95 : ¬ (1 : Int) = (0 : Int) := fun z => c_93 ((c_eq (nI_toInt (n := 1) (by omega)) rfl).mpr z)
                refine lv_sipush (v := nI (297)) hx hb dL_act_249 (by decide) ?_
                refine lv_goto (tgt := 258) hx hb dL_act_252 (by decide) ?_
                refine kPi (va_runS (As := [.int (x0 >>> ((nI (5)) &&& 31)), .int (nI (297))]) (rest := [.int (nI (4)), .ref (a 0)]) ⟨hx, hb, hml, hown, hts⟩ (c_L_low (x0 >>> ((nI (5)) &&& 31)) 297 (by first | assumption | omega)) (va_cwS 2 hts gL_act_L_low rfl rfl rfl (by decide +kernel) ⟨Nat.le_of_ble_eq_true rfl, Nat.le_of_ble_eq_true rfl⟩) (preS hC hS hLo) rfl rfl hl.1 rfl (lv_room (Nat.le_of_ble_eq_true rfl)) dL_act_258 ⟨Nat.zero_le _, Nat.zero_le _⟩) hS (fun locs hS => ?_)
                refine lv_iload hx hb dL_act_261 (lv_at hl 1 rfl) ?_
                refine lv_if_eq (tgt := 270) hx hb dL_act_263 (by decide) (fun c_96 => ?_) (fun c_96 => ?_)
                · have f_97 : (1 : Int) = (0 : Int) := (c_eq (nI_toInt (n := 1) (by omega)) rfl).mp c_96
                  exfalso; omega
                · have f_98 : ¬ (1 : Int) = (0 : Int) := fun z => c_96 ((c_eq (nI_toInt (n := 1) (by omega)) rfl).mpr z)
                  refine lv_iconst (v := nI (4)) hx hb dL_act_266 (by decide) ?_
                  refine lv_goto (tgt := 271) hx hb dL_act_267 (by decide) ?_
                  refine gAdd (z := (lowI (x0 >>> ((nI (5)) &&& 31)) 297) + (nI (4))) hx hb dL_act_271 (rfl) ?_
                  refine lv_iconst (v := nI (0)) hx hb dL_act_272 (by decide) ?_
                  refine lv_iconst (v := nI (0)) hx hb dL_act_273 (by decide) ?_
                  refine lv_aload_n hx hb dL_act_274 rfl (lv_at hl 5 rfl) ?_
                  refine kWi (vx_runSW (As := [.ref (a 0), .int (nI (4)), .int ((lowI (x0 >>> ((nI (5)) &&& 31)) 297) + (nI (4))), .int (nI (0)), .int (nI (0)), .ref oa]) (rest := []) ⟨hx, hb, hml, hown, hts⟩ (o_chg_4 a v j oa of ((lowI (x0 >>> ((nI (5)) &&& 31)) 297) + (nI (4))) (nI (0)) (nI (0)) hv hpi hj hfl hP (hD.weaken (fun _ _ _ h => hLo _ h))) (vx_cwSW 6 hts gL_act_L_changes rfl rfl rfl (by decide +kernel) ⟨(Nat.le_of_ble_eq_true rfl), (Nat.le_of_ble_eq_true rfl)⟩) (preSX hCX hS hLo) rfl rfl hl.1 rfl (lv_room (Nat.le_of_ble_eq_true rfl)) dL_act_275 ⟨(Nat.le_of_ble_eq_true rfl), (Nat.le_of_ble_eq_true rfl)⟩) hP hD hS hA (fun _ => ou_fst) (fun r_99 u_100 H locs q_101 hP hD hS => ?_)
                  have hac : acA x0 = (4, (lowI (x0 >>> ((nI (5)) &&& 31)) 297) + (nI (4)), nI (0), nI (0)) := by simp only [acA, if_neg f_72, if_pos f_74, if_pos f_76, if_pos f_78, if_pos f_80, if_pos f_92, if_neg f_95, if_neg f_98]
                  have hP : PP G (oW G a u_100.1 u_100.2.1 ++ ouW G oa u_100.2.2) H := hP
                  have hD : va_D A (oW G a u_100.1 u_100.2.1 ++ ouW G oa u_100.2.2) := hD
                  refine lv_goto (tgt := 316) hx hb dL_act_278 (by decide) ?_
                  exact xMi (G := G) (post := (fun (r : Int32) (u : CT3) => CHP (acA x0).1 (acA x0).2.1 (acA x0).2.2.1 (acA x0).2.2.2 v j of r u)) (w1 := (fun (u : CT3) => oW G a u.1 u.2.1 ++ ouW G oa u.2.2)) (u_100) hx hb hr hlocks hP hS (by exact (by rw [hac]; exact q_101)) (by exact rfl) dL_act_316
          · have f_102 : ¬ (18 : Int) ≤ Int32.toInt (lowI x0 20) := fun z => c_79 ((c_le (nI_toInt (n := 18) (by omega)) rfl).mpr z)
            refine lv_aload_n hx hb dL_act_212 rfl (lv_at hl 3 rfl) ?_
            refine lv_iconst (v := nI (3)) hx hb dL_act_213 (by decide) ?_
            refine lv_iload_n hx hb dL_act_214 rfl (lv_at hl 2 rfl) ?_
            refine lv_iconst (v := nI (3)) hx hb dL_act_215 (by decide) ?_
            refine g_iand (z := (x0 >>> ((nI (5)) &&& 31)) &&& (nI (3))) hx hb dL_act_216 (rfl) ?_
            refine lv_if_ne (tgt := 224) hx hb dL_act_217 (by decide) (fun c_103 => ?_) (fun c_103 => ?_)
            · have f_104 : ¬ ((x0 >>> ((nI (5)) &&& 31)) &&& (nI (3)) : Int32) = 0 := c_103
              refine lv_iconst (v := nI (0)) hx hb dL_act_224 (by decide) ?_
              refine lv_iconst (v := nI (0)) hx hb dL_act_225 (by decide) ?_
              refine lv_iconst (v := nI (0)) hx hb dL_act_226 (by decide) ?_
              refine lv_aload_n hx hb dL_act_227 rfl (lv_at hl 5 rfl) ?_
              refine kWi (vx_runSW (As := [.ref (a 0), .int (nI (3)), .int (nI (0)), .int (nI (0)), .int (nI (0)), .ref oa]) (rest := []) ⟨hx, hb, hml, hown, hts⟩ (o_chg_3 a v j oa of (nI (0)) (nI (0)) (nI (0)) (Or.inl rfl) hv hpi hj hfl hP (hD.weaken (fun _ _ _ h => hLo _ h))) (vx_cwSW 6 hts gL_act_L_changes rfl rfl rfl (by decide +kernel) ⟨(Nat.le_of_ble_eq_true rfl), (Nat.le_of_ble_eq_true rfl)⟩) (preSX hCX hS hLo) rfl rfl hl.1 rfl (lv_room (Nat.le_of_ble_eq_true rfl)) dL_act_228 ⟨(Nat.le_of_ble_eq_true rfl), (Nat.le_of_ble_eq_true rfl)⟩) hP hD hS hA (fun _ => ou_fst) (fun r_105 u_106 H locs q_107 hP hD hS => ?_)
              have hac : acA x0 = (3, nI (0), nI (0), nI (0)) := by simp only [acA, if_neg f_72, if_pos f_74, if_pos f_76, if_pos f_78, if_neg f_102, if_neg f_104]
              have hP : PP G (oW G a u_106.1 u_106.2.1 ++ ouW G oa u_106.2.2) H := hP
              have hD : va_D A (oW G a u_106.1 u_106.2.1 ++ ouW G oa u_106.2.2) := hD
              refine lv_goto (tgt := 316) hx hb dL_act_231 (by decide) ?_
              exact xMi (G := G) (post := (fun (r : Int32) (u : CT3) => CHP (acA x0).1 (acA x0).2.1 (acA x0).2.2.1 (acA x0).2.2.2 v j of r u)) (w1 := (fun (u : CT3) => oW G a u.1 u.2.1 ++ ouW G oa u.2.2)) (u_106) hx hb hr hlocks hP hS (by exact (by rw [hac]; exact q_107)) (by exact rfl) dL_act_316
            · have f_108 : ((x0 >>> ((nI (5)) &&& 31)) &&& (nI (3)) : Int32) = 0 := c_103
              refine lv_iconst (v := nI (1)) hx hb dL_act_220 (by decide) ?_
              refine lv_goto (tgt := 225) hx hb dL_act_221 (by decide) ?_
              refine lv_iconst (v := nI (0)) hx hb dL_act_225 (by decide) ?_
              refine lv_iconst (v := nI (0)) hx hb dL_act_226 (by decide) ?_
              refine lv_aload_n hx hb dL_act_227 rfl (lv_at hl 5 rfl) ?_
              refine kWi (vx_runSW (As := [.ref (a 0), .int (nI (3)), .int (nI (1)), .int (nI (0)), .int (nI (0)), .ref oa]) (rest := []) ⟨hx, hb, hml, hown, hts⟩ (o_chg_3 a v j oa of (nI (1)) (nI (0)) (nI (0)) (Or.inr rfl) hv hpi hj hfl hP (hD.weaken (fun _ _ _ h => hLo _ h))) (vx_cwSW 6 hts gL_act_L_changes rfl rfl rfl (by decide +kernel) ⟨(Nat.le_of_ble_eq_true rfl), (Nat.le_of_ble_eq_true rfl)⟩) (preSX hCX hS hLo) rfl rfl hl.1 rfl (lv_room (Nat.le_of_ble_eq_true rfl)) dL_act_228 ⟨(Nat.le_of_ble_eq_true rfl), (Nat.le_of_ble_eq_true rfl)⟩) hP hD hS hA (fun _ => ou_fst) (fun r_109 u_110 H locs q_111 hP hD hS => ?_)
              have hac : acA x0 = (3, nI (1), nI (0), nI (0)) := by simp only [acA, if_neg f_72, if_pos f_74, if_pos f_76, if_pos f_78, if_neg f_102, if_pos f_108]
              have hP : PP G (oW G a u_110.1 u_110.2.1 ++ ouW G oa u_110.2.2) H := hP
              have hD : va_D A (oW G a u_110.1 u_110.2.1 ++ ouW G oa u_110.2.2) := hD
              refine lv_goto (tgt := 316) hx hb dL_act_231 (by decide) ?_
              exact xMi (G := G) (post := (fun (r : Int32) (u : CT3) => CHP (acA x0).1 (acA x0).2.1 (acA x0).2.2.1 (acA x0).2.2.2 v j of r u)) (w1 := (fun (u : CT3) => oW G a u.1 u.2.1 ++ ouW G oa u.2.2)) (u_110) hx hb hr hlocks hP hS (by exact (by rw [hac]; exact q_111)) (by exact rfl) dL_act_316
        · have f_112 : ¬ (13 : Int) ≤ Int32.toInt (lowI x0 20) := fun z => c_77 ((c_le (nI_toInt (n := 13) (by omega)) rfl).mpr z)
          refine lv_aload_n hx hb dL_act_171 rfl (lv_at hl 3 rfl) ?_
          refine lv_iconst (v := nI (2)) hx hb dL_act_172 (by decide) ?_
          refine lv_iload_n hx hb dL_act_173 rfl (lv_at hl 2 rfl) ?_
          refine lv_iload hx hb dL_act_174 (lv_at hl 1 rfl) ?_
          refine lv_if_eq (tgt := 183) hx hb dL_act_176 (by decide) (fun c_113 => ?_) (fun c_113 => ?_)
          · have f_114 : (1 : Int) = (0 : Int) := (c_eq (nI_toInt (n := 1) (by omega)) rfl).mp c_113
            exfalso; omega
          · have f_115 : ¬ (1 : Int) = (0 : Int) := fun z => c_113 ((c_eq (nI_toInt (n := 1) (by omega)) rfl).mpr z)
            refine lv_iconst (v := nI (5)) hx hb dL_act_179 (by decide) ?_
            refine lv_goto (tgt := 185) hx hb dL_act_180 (by decide) ?_
            refine kPi (va_runS (As := [.int (x0 >>> ((nI (5)) &&& 31)), .int (nI (5))]) (rest := [.int (nI (2)), .ref (a 0)]) ⟨hx, hb, hml, hown, hts⟩ (c_L_low (x0 >>> ((nI (5)) &&& 31)) 5 (by first | assumption | omega)) (va_cwS 2 hts gL_act_L_low rfl rfl rfl (by decide +kernel) ⟨Nat.le_of_ble_eq_true rfl, Nat.le_of_ble_eq_true rfl⟩) (preS hC hS hLo) rfl rfl hl.1 rfl (lv_room (Nat.le_of_ble_eq_true rfl)) dL_act_185 ⟨Nat.zero_le _, Nat.zero_le _⟩) hS (fun locs hS => ?_)
            refine lv_iconst (v := nI (2)) hx hb dL_act_188 (by decide) ?_
            refine gSub (z := (lowI (x0 >>> ((nI (5)) &&& 31)) 5) - (nI (2))) hx hb dL_act_189 (rfl) ?_
            refine lv_iload_n hx hb dL_act_190 rfl (lv_at hl 2 rfl) ?_
            refine lv_iconst (v := nI (3)) hx hb dL_act_191 (by decide) ?_
            refine g_ishr (z := (x0 >>> ((nI (5)) &&& 31)) >>> ((nI (3)) &&& 31)) hx hb dL_act_192 (rfl) ?_
            refine lv_iconst (v := nI (5)) hx hb dL_act_193 (by decide) ?_
            refine kPi (va_runS (As := [.int ((x0 >>> ((nI (5)) &&& 31)) >>> ((nI (3)) &&& 31)), .int (nI (5))]) (rest := [.int ((lowI (x0 >>> ((nI (5)) &&& 31)) 5) - (nI (2))), .int (nI (2)), .ref (a 0)]) ⟨hx, hb, hml, hown, hts⟩ (c_L_low ((x0 >>> ((nI (5)) &&& 31)) >>> ((nI (3)) &&& 31)) 5 (by first | assumption | omega)) (va_cwS 2 hts gL_act_L_low rfl rfl rfl (by decide +kernel) ⟨Nat.le_of_ble_eq_true rfl, Nat.le_of_ble_eq_true rfl⟩) (preS hC hS hLo) rfl rfl hl.1 rfl (lv_room (Nat.le_of_ble_eq_true rfl)) dL_act_194 ⟨Nat.zero_le _, Nat.zero_le _⟩) hS (fun locs hS => ?_)
            refine lv_iconst (v := nI (2)) hx hb dL_act_197 (by decide) ?_
            refine gSub (z := (lowI ((x0 >>> ((nI (5)) &&& 31)) >>> ((nI (3)) &&& 31)) 5) - (nI (2))) hx hb dL_act_198 (rfl) ?_
            refine lv_iconst (v := nI (0)) hx hb dL_act_199 (by decide) ?_
            refine lv_aload_n hx hb dL_act_200 rfl (lv_at hl 5 rfl) ?_
            refine kWi (vx_runSW (As := [.ref (a 0), .int (nI (2)), .int ((lowI (x0 >>> ((nI (5)) &&& 31)) 5) - (nI (2))), .int ((lowI ((x0 >>> ((nI (5)) &&& 31)) >>> ((nI (3)) &&& 31)) 5) - (nI (2))), .int (nI (0)), .ref oa]) (rest := []) ⟨hx, hb, hml, hown, hts⟩ (o_chg_2 a v j oa of ((lowI (x0 >>> ((nI (5)) &&& 31)) 5) - (nI (2))) ((lowI ((x0 >>> ((nI (5)) &&& 31)) >>> ((nI (3)) &&& 31)) 5) - (nI (2))) (nI (0)) hv hpi hj hfl hP (hD.weaken (fun _ _ _ h => hLo _ h))) (vx_cwSW 6 hts gL_act_L_changes rfl rfl rfl (by decide +kernel) ⟨(Nat.le_of_ble_eq_true rfl), (Nat.le_of_ble_eq_true rfl)⟩) (preSX hCX hS hLo) rfl rfl hl.1 rfl (lv_room (Nat.le_of_ble_eq_true rfl)) dL_act_201 ⟨(Nat.le_of_ble_eq_true rfl), (Nat.le_of_ble_eq_true rfl)⟩) hP hD hS hA (fun _ => ou_fst) (fun r_116 u_117 H locs q_118 hP hD hS => ?_)
            have hac : acA x0 = (2, (lowI (x0 >>> ((nI (5)) &&& 31)) 5) - (nI (2)), (lowI ((x0 >>> ((nI (5)) &&& 31)) >>> ((nI (3)) &&& 31)) 5) - (nI (2)), nI (0)) := by simp only [acA, if_neg f_72, if_pos f_74, if_pos f_76, if_neg f_112, if_neg f_115]
            have hP : PP G (oW G a u_117.1 u_117.2.1 ++ ouW G oa u_117.2.2) H := hP
            have hD : va_D A (oW G a u_117.1 u_117.2.1 ++ ouW G oa u_117.2.2) := hD
            exact xMi (G := G) (post := (fun (r : Int32) (u : CT3) => CHP (acA x0).1 (acA x0).2.1 (acA x0).2.2.1 (acA x0).2.2.2 v j of r u)) (w1 := (fun (u : CT3) => oW G a u.1 u.2.1 ++ ouW G oa u.2.2)) (u_117) hx hb hr hlocks hP hS (by exact (by rw [hac]; exact q_118)) (by exact rfl) dL_act_204
      · have f_119 : ¬ (9 : Int) ≤ Int32.toInt (lowI x0 20) := fun z => c_75 ((c_le (nI_toInt (n := 9) (by omega)) rfl).mpr z)
        refine lv_aload_n hx hb dL_act_87 rfl (lv_at hl 3 rfl) ?_
        refine lv_iconst (v := nI (1)) hx hb dL_act_88 (by decide) ?_
        refine lv_iload_n hx hb dL_act_89 rfl (lv_at hl 2 rfl) ?_
        refine lv_iload hx hb dL_act_90 (lv_at hl 1 rfl) ?_
        refine lv_if_eq (tgt := 100) hx hb dL_act_92 (by decide) (fun c_120 => ?_) (fun c_120 => ?_)
        · have f_121 : (1 : Int) = (0 : Int) := (c_eq (nI_toInt (n := 1) (by omega)) rfl).mp c_120
          exfalso; omega
        · have f_122 : ¬ (1 : Int) = (0 : Int) := fun z => c_120 ((c_eq (nI_toInt (n := 1) (by omega)) rfl).mpr z)
          refine lv_bipush (v := nI (64)) hx hb dL_act_95 (by decide) ?_
          refine lv_goto (tgt := 102) hx hb dL_act_97 (by decide) ?_
          refine kPi (va_runS (As := [.int (x0 >>> ((nI (5)) &&& 31)), .int (nI (64))]) (rest := [.int (nI (1)), .ref (a 0)]) ⟨hx, hb, hml, hown, hts⟩ (c_L_low (x0 >>> ((nI (5)) &&& 31)) 64 (by first | assumption | omega)) (va_cwS 2 hts gL_act_L_low rfl rfl rfl (by decide +kernel) ⟨Nat.le_of_ble_eq_true rfl, Nat.le_of_ble_eq_true rfl⟩) (preS hC hS hLo) rfl rfl hl.1 rfl (lv_room (Nat.le_of_ble_eq_true rfl)) dL_act_102 ⟨Nat.zero_le _, Nat.zero_le _⟩) hS (fun locs hS => ?_)
          refine lv_iload_n hx hb dL_act_105 rfl (lv_at hl 2 rfl) ?_
          refine lv_bipush (v := nI (6)) hx hb dL_act_106 (by decide) ?_
          refine g_ishr (z := (x0 >>> ((nI (5)) &&& 31)) >>> ((nI (6)) &&& 31)) hx hb dL_act_108 (rfl) ?_
          refine lv_bipush (v := nI (8)) hx hb dL_act_109 (by decide) ?_
          refine kPi (va_runS (As := [.int ((x0 >>> ((nI (5)) &&& 31)) >>> ((nI (6)) &&& 31)), .int (nI (8))]) (rest := [.int (lowI (x0 >>> ((nI (5)) &&& 31)) 64), .int (nI (1)), .ref (a 0)]) ⟨hx, hb, hml, hown, hts⟩ (c_L_low ((x0 >>> ((nI (5)) &&& 31)) >>> ((nI (6)) &&& 31)) 8 (by first | assumption | omega)) (va_cwS 2 hts gL_act_L_low rfl rfl rfl (by decide +kernel) ⟨Nat.le_of_ble_eq_true rfl, Nat.le_of_ble_eq_true rfl⟩) (preS hC hS hLo) rfl rfl hl.1 rfl (lv_room (Nat.le_of_ble_eq_true rfl)) dL_act_111 ⟨Nat.zero_le _, Nat.zero_le _⟩) hS (fun locs hS => ?_)
          refine lv_iload hx hb dL_act_114 (lv_at hl 1 rfl) ?_
          refine lv_if_eq (tgt := 123) hx hb dL_act_116 (by decide) (fun c_123 => ?_) (fun c_123 => ?_)
          · have f_124 : (1 : Int) = (0 : Int) := (c_eq (nI_toInt (n := 1) (by omega)) rfl).mp c_123
            exfalso; omega
          · have f_125 : ¬ (1 : Int) = (0 : Int) := fun z => c_123 ((c_eq (nI_toInt (n := 1) (by omega)) rfl).mpr z)
            refine lv_iconst (v := nI (1)) hx hb dL_act_119 (by decide) ?_
            refine lv_goto (tgt := 124) hx hb dL_act_120 (by decide) ?_
            refine gAdd (z := (lowI ((x0 >>> ((nI (5)) &&& 31)) >>> ((nI (6)) &&& 31)) 8) + (nI (1))) hx hb dL_act_124 (rfl) ?_
            refine lv_bipush (v := nI (100)) hx hb dL_act_125 (by decide) ?_
            refine lv_iconst (v := nI (1)) hx hb dL_act_127 (by decide) ?_
            refine lv_iload_n hx hb dL_act_128 rfl (lv_at hl 2 rfl) ?_
            refine lv_bipush (v := nI (9)) hx hb dL_act_129 (by decide) ?_
            refine g_ishr (z := (x0 >>> ((nI (5)) &&& 31)) >>> ((nI (9)) &&& 31)) hx hb dL_act_131 (rfl) ?_
            refine lv_iload hx hb dL_act_132 (lv_at hl 1 rfl) ?_
            refine lv_if_eq (tgt := 142) hx hb dL_act_134 (by decide) (fun c_126 => ?_) (fun c_126 => ?_)
            · have f_127 : (1 : Int) = (0 : Int) := (c_eq (nI_toInt (n := 1) (by omega)) rfl).mp c_126
              exfalso; omega
            · have f_128 : ¬ (1 : Int) = (0 : Int) := fun z => c_126 ((c_eq (nI_toInt (n := 1) (by omega)) rfl).mpr z)
              refine lv_bipush (v := nI (8)) hx hb dL_act_137 (by decide) ?_
              refine lv_goto (tgt := 144) hx hb dL_act_139 (by decide) ?_
              refine kPi (va_runS (As := [.int ((x0 >>> ((nI (5)) &&& 31)) >>> ((nI (9)) &&& 31)), .int (nI (8))]) (rest := [.int (nI (1)), .int (nI (100)), .int ((lowI ((x0 >>> ((nI (5)) &&& 31)) >>> ((nI (6)) &&& 31)) 8) + (nI (1))), .int (lowI (x0 >>> ((nI (5)) &&& 31)) 64), .int (nI (1)), .ref (a 0)]) ⟨hx, hb, hml, hown, hts⟩ (c_L_low ((x0 >>> ((nI (5)) &&& 31)) >>> ((nI (9)) &&& 31)) 8 (by first | assumption | omega)) (va_cwS 2 hts gL_act_L_low rfl rfl rfl (by decide +kernel) ⟨Nat.le_of_ble_eq_true rfl, Nat.le_of_ble_eq_true rfl⟩) (preS hC hS hLo) rfl rfl hl.1 rfl (lv_room (Nat.le_of_ble_eq_true rfl)) dL_act_144 ⟨Nat.zero_le _, Nat.zero_le _⟩) hS (fun locs hS => ?_)
              refine gAdd (z := (nI (1)) + (lowI ((x0 >>> ((nI (5)) &&& 31)) >>> ((nI (9)) &&& 31)) 8)) hx hb dL_act_147 (rfl) ?_
              refine gMul (z := (nI (100)) * ((nI (1)) + (lowI ((x0 >>> ((nI (5)) &&& 31)) >>> ((nI (9)) &&& 31)) 8))) hx hb dL_act_148 (rfl) ?_
              refine lv_iload_n hx hb dL_act_149 rfl (lv_at hl 2 rfl) ?_
              refine lv_bipush (v := nI (12)) hx hb dL_act_150 (by decide) ?_
              refine g_ishr (z := (x0 >>> ((nI (5)) &&& 31)) >>> ((nI (12)) &&& 31)) hx hb dL_act_152 (rfl) ?_
              refine lv_bipush (v := nI (16)) hx hb dL_act_153 (by decide) ?_
              refine kPi (va_runS (As := [.int ((x0 >>> ((nI (5)) &&& 31)) >>> ((nI (12)) &&& 31)), .int (nI (16))]) (rest := [.int ((nI (100)) * ((nI (1)) + (lowI ((x0 >>> ((nI (5)) &&& 31)) >>> ((nI (9)) &&& 31)) 8))), .int ((lowI ((x0 >>> ((nI (5)) &&& 31)) >>> ((nI (6)) &&& 31)) 8) + (nI (1))), .int (lowI (x0 >>> ((nI (5)) &&& 31)) 64), .int (nI (1)), .ref (a 0)]) ⟨hx, hb, hml, hown, hts⟩ (c_L_low ((x0 >>> ((nI (5)) &&& 31)) >>> ((nI (12)) &&& 31)) 16 (by first | assumption | omega)) (va_cwS 2 hts gL_act_L_low rfl rfl rfl (by decide +kernel) ⟨Nat.le_of_ble_eq_true rfl, Nat.le_of_ble_eq_true rfl⟩) (preS hC hS hLo) rfl rfl hl.1 rfl (lv_room (Nat.le_of_ble_eq_true rfl)) dL_act_155 ⟨Nat.zero_le _, Nat.zero_le _⟩) hS (fun locs hS => ?_)
              refine gAdd (z := ((nI (100)) * ((nI (1)) + (lowI ((x0 >>> ((nI (5)) &&& 31)) >>> ((nI (9)) &&& 31)) 8))) + (lowI ((x0 >>> ((nI (5)) &&& 31)) >>> ((nI (12)) &&& 31)) 16)) hx hb dL_act_158 (rfl) ?_
              refine lv_aload_n hx hb dL_act_159 rfl (lv_at hl 5 rfl) ?_
              refine kWi (vx_runSW (As := [.ref (a 0), .int (nI (1)), .int (lowI (x0 >>> ((nI (5)) &&& 31)) 64), .int ((lowI ((x0 >>> ((nI (5)) &&& 31)) >>> ((nI (6)) &&& 31)) 8) + (nI (1))), .int (((nI (100)) * ((nI (1)) + (lowI ((x0 >>> ((nI (5)) &&& 31)) >>> ((nI (9)) &&& 31)) 8))) + (lowI ((x0 >>> ((nI (5)) &&& 31)) >>> ((nI (12)) &&& 31)) 16)), .ref oa]) (rest := []) ⟨hx, hb, hml, hown, hts⟩ (o_chg_1 a v j oa of (lowI (x0 >>> ((nI (5)) &&& 31)) 64) ((lowI ((x0 >>> ((nI (5)) &&& 31)) >>> ((nI (6)) &&& 31)) 8) + (nI (1))) (((nI (100)) * ((nI (1)) + (lowI ((x0 >>> ((nI (5)) &&& 31)) >>> ((nI (9)) &&& 31)) 8))) + (lowI ((x0 >>> ((nI (5)) &&& 31)) >>> ((nI (12)) &&& 31)) 16)) hv hpi hj hfl hP (hD.weaken (fun _ _ _ h => hLo _ h))) (vx_cwSW 6 hts gL_act_L_changes rfl rfl rfl (by decide +kernel) ⟨(Nat.le_of_ble_eq_true rfl), (Nat.le_of_ble_eq_true rfl)⟩) (preSX hCX hS hLo) rfl rfl hl.1 rfl (lv_room (Nat.le_of_ble_eq_true rfl)) dL_act_160 ⟨(Nat.le_of_ble_eq_true rfl), (Nat.le_of_ble_eq_true rfl)⟩) hP hD hS hA (fun _ => ou_fst) (fun r_129 u_130 H locs q_131 hP hD hS => ?_)
              have hac : acA x0 = (1, lowI (x0 >>> ((nI (5)) &&& 31)) 64, (lowI ((x0 >>> ((nI (5)) &&& 31)) >>> ((nI (6)) &&& 31)) 8) + (nI (1)), ((nI (100)) * ((nI (1)) + (lowI ((x0 >>> ((nI (5)) &&& 31)) >>> ((nI (9)) &&& 31)) 8))) + (lowI ((x0 >>> ((nI (5)) &&& 31)) >>> ((nI (12)) &&& 31)) 16)) := by simp only [acA, if_neg f_72, if_pos f_74, if_neg f_119, if_neg f_122, if_neg f_125, if_neg f_128]
              have hP : PP G (oW G a u_130.1 u_130.2.1 ++ ouW G oa u_130.2.2) H := hP
              have hD : va_D A (oW G a u_130.1 u_130.2.1 ++ ouW G oa u_130.2.2) := hD
              exact xMi (G := G) (post := (fun (r : Int32) (u : CT3) => CHP (acA x0).1 (acA x0).2.1 (acA x0).2.2.1 (acA x0).2.2.2 v j of r u)) (w1 := (fun (u : CT3) => oW G a u.1 u.2.1 ++ ouW G oa u.2.2)) (u_130) hx hb hr hlocks hP hS (by exact (by rw [hac]; exact q_131)) (by exact rfl) dL_act_163
    · have f_132 : ¬ (4 : Int) ≤ Int32.toInt (lowI x0 20) := fun z => c_73 ((c_le (nI_toInt (n := 4) (by omega)) rfl).mpr z)
      refine lv_aload_n hx hb dL_act_37 rfl (lv_at hl 3 rfl) ?_
      refine lv_iconst (v := nI (0)) hx hb dL_act_38 (by decide) ?_
      refine lv_iload_n hx hb dL_act_39 rfl (lv_at hl 2 rfl) ?_
      refine lv_iload hx hb dL_act_40 (lv_at hl 1 rfl) ?_
      refine lv_if_eq (tgt := 50) hx hb dL_act_42 (by decide) (fun c_133 => ?_) (fun c_133 => ?_)
      · have f_134 : (1 : Int) = (0 : Int) := (c_eq (nI_toInt (n := 1) (by omega)) rfl).mp c_133
        exfalso; omega
      · have f_135 : ¬ (1 : Int) = (0 : Int) := fun z => c_133 ((c_eq (nI_toInt (n := 1) (by omega)) rfl).mpr z)
        refine lv_bipush (v := nI (64)) hx hb dL_act_45 (by decide) ?_
        refine lv_goto (tgt := 52) hx hb dL_act_47 (by decide) ?_
        refine kPi (va_runS (As := [.int (x0 >>> ((nI (5)) &&& 31)), .int (nI (64))]) (rest := [.int (nI (0)), .ref (a 0)]) ⟨hx, hb, hml, hown, hts⟩ (c_L_low (x0 >>> ((nI (5)) &&& 31)) 64 (by first | assumption | omega)) (va_cwS 2 hts gL_act_L_low rfl rfl rfl (by decide +kernel) ⟨Nat.le_of_ble_eq_true rfl, Nat.le_of_ble_eq_true rfl⟩) (preS hC hS hLo) rfl rfl hl.1 rfl (lv_room (Nat.le_of_ble_eq_true rfl)) dL_act_52 ⟨Nat.zero_le _, Nat.zero_le _⟩) hS (fun locs hS => ?_)
        refine lv_iload_n hx hb dL_act_55 rfl (lv_at hl 2 rfl) ?_
        refine lv_bipush (v := nI (6)) hx hb dL_act_56 (by decide) ?_
        refine g_ishr (z := (x0 >>> ((nI (5)) &&& 31)) >>> ((nI (6)) &&& 31)) hx hb dL_act_58 (rfl) ?_
        refine lv_iload hx hb dL_act_59 (lv_at hl 1 rfl) ?_
        refine lv_if_eq (tgt := 69) hx hb dL_act_61 (by decide) (fun c_136 => ?_) (fun c_136 => ?_)
        · have f_137 : (1 : Int) = (0 : Int) := (c_eq (nI_toInt (n := 1) (by omega)) rfl).mp c_136
          exfalso; omega
        · have f_138 : ¬ (1 : Int) = (0 : Int) := fun z => c_136 ((c_eq (nI_toInt (n := 1) (by omega)) rfl).mpr z)
          refine lv_bipush (v := nI (16)) hx hb dL_act_64 (by decide) ?_
          refine lv_goto (tgt := 71) hx hb dL_act_66 (by decide) ?_
          refine kPi (va_runS (As := [.int ((x0 >>> ((nI (5)) &&& 31)) >>> ((nI (6)) &&& 31)), .int (nI (16))]) (rest := [.int (lowI (x0 >>> ((nI (5)) &&& 31)) 64), .int (nI (0)), .ref (a 0)]) ⟨hx, hb, hml, hown, hts⟩ (c_L_low ((x0 >>> ((nI (5)) &&& 31)) >>> ((nI (6)) &&& 31)) 16 (by first | assumption | omega)) (va_cwS 2 hts gL_act_L_low rfl rfl rfl (by decide +kernel) ⟨Nat.le_of_ble_eq_true rfl, Nat.le_of_ble_eq_true rfl⟩) (preS hC hS hLo) rfl rfl hl.1 rfl (lv_room (Nat.le_of_ble_eq_true rfl)) dL_act_71 ⟨Nat.zero_le _, Nat.zero_le _⟩) hS (fun locs hS => ?_)
          refine lv_iconst (v := nI (0)) hx hb dL_act_74 (by decide) ?_
          refine lv_aload_n hx hb dL_act_75 rfl (lv_at hl 5 rfl) ?_
          refine kWi (vx_runSW (As := [.ref (a 0), .int (nI (0)), .int (lowI (x0 >>> ((nI (5)) &&& 31)) 64), .int (lowI ((x0 >>> ((nI (5)) &&& 31)) >>> ((nI (6)) &&& 31)) 16), .int (nI (0)), .ref oa]) (rest := []) ⟨hx, hb, hml, hown, hts⟩ (o_chg_0 a v j oa of (lowI (x0 >>> ((nI (5)) &&& 31)) 64) (lowI ((x0 >>> ((nI (5)) &&& 31)) >>> ((nI (6)) &&& 31)) 16) (nI (0)) hv hpi hj hfl hP (hD.weaken (fun _ _ _ h => hLo _ h))) (vx_cwSW 6 hts gL_act_L_changes rfl rfl rfl (by decide +kernel) ⟨(Nat.le_of_ble_eq_true rfl), (Nat.le_of_ble_eq_true rfl)⟩) (preSX hCX hS hLo) rfl rfl hl.1 rfl (lv_room (Nat.le_of_ble_eq_true rfl)) dL_act_76 ⟨(Nat.le_of_ble_eq_true rfl), (Nat.le_of_ble_eq_true rfl)⟩) hP hD hS hA (fun _ => ou_fst) (fun r_139 u_140 H locs q_141 hP hD hS => ?_)
          have hac : acA x0 = (0, lowI (x0 >>> ((nI (5)) &&& 31)) 64, lowI ((x0 >>> ((nI (5)) &&& 31)) >>> ((nI (6)) &&& 31)) 16, nI (0)) := by simp only [acA, if_neg f_72, if_neg f_132, if_neg f_135, if_neg f_138]
          have hP : PP G (oW G a u_140.1 u_140.2.1 ++ ouW G oa u_140.2.2) H := hP
          have hD : va_D A (oW G a u_140.1 u_140.2.1 ++ ouW G oa u_140.2.2) := hD
          exact xMi (G := G) (post := (fun (r : Int32) (u : CT3) => CHP (acA x0).1 (acA x0).2.1 (acA x0).2.2.1 (acA x0).2.2.2 v j of r u)) (w1 := (fun (u : CT3) => oW G a u.1 u.2.1 ++ ouW G oa u.2.2)) (u_140) hx hb hr hlocks hP hS (by exact (by rw [hac]; exact q_141)) (by exact rfl) dL_act_79
