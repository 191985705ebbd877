set_option maxHeartbeats 4000000 in
set_option maxRecDepth 100000 in
theorem c_L_areMovesSo {l : Launch} {G : GT} {H0 : Heap} (a : Nat → Nat) (v : SVT) (j : JT) (b : Nat) (hv : OKS v) (hj : OKJ j) (hb4 : b < 4) (hP0 : PP G (oW G a v j) H0) (hB0 : va_D (lo G) (oW G a v j)) : Met l yL_areMovesSo wsL_areMovesSo ({ frames := 5, cells := 0, slots := 0, locals := 117 } : Room) (pcG G [.ref (a 0), .int (nI (b))] H0) (qMi G (fun (r : Int32) (u : JT) => r = nI 1 ∧ OKJ u ∧ jH u = jH j) (fun (u : JT) => oW G a v u) (oW G a v j) H0) 0 0 (va_A (oW G a v j) H0.size) := by
  refine enter (cc := cL_areMovesSo) (maxL := 11) (ret := some .boolean) (own := RL) (lv := [(0, .ref (a 0)), (1, .int (nI (b)))]) (by decide) rfl rfl rfl (Nat.le_of_ble_eq_true rfl) ?_
  intro pg ev s m below meth c hx hb hr hts hown hlocks hml hnm hH hC ls hl
  subst hH
  have hLo := va_freeB hB0 hC.2.2.2.1
  have hD := hB0.self (sz := s.heap.size)
  have hS : va_S (va_A (oW G a v j) s.heap.size) s.heap s.heap [] := va_S.rf
  unfold qMi
  generalize hAe : va_A (oW G a v j) s.heap.size = A at hD hLo hS ⊢
  have hA : ∀ q, s.heap.size ≤ q → A q := fun q h => by rw [← hAe]; exact Or.inr h
  generalize ([] : List Loc) = locs at hS ⊢
  have hP := hP0
  have hv0 := hv
  obtain ⟨hd, ht, hg, hk, hbu, hkd⟩ := hv
  have hbl := BEST_lt (sD v) (sT v) b
  have hDb := DIST_in hd ht b (BEST (sD v) (sT v) b)
  have hlb := lenM_le hbl
  refine lv_aload_n hx hb dL_areMovesSo_0 rfl (lv_at hl 0 rfl) ?_
  refine lv_iload_n hx hb dL_areMovesSo_1 rfl (lv_at hl 1 rfl) ?_
  refine kPi (va_runV (As := [.int (nI (b))]) (rest := []) ⟨hx, hb, hml, hown, hts⟩ (c_X8_bestMove a v b hd ht hb4 (oW_now hP)) (cwV 1 hts gL_areMovesSo_X8_bestMove rfl rfl rfl (by decide +kernel) ⟨(Nat.le_of_ble_eq_true rfl), (Nat.le_of_ble_eq_true rfl)⟩) (preV hC hS hLo (oW_obj hP) (ci := 7) (q0 := 0) rfl rfl) rfl rfl hl.1 rfl (lv_room (Nat.le_of_ble_eq_true rfl)) dL_areMovesSo_2 ⟨(Nat.le_of_ble_eq_true rfl), (Nat.le_of_ble_eq_true rfl)⟩) hS (fun locs hS => ?_)
  refine topE (v' := nI (BEST (sD v) (sT v) b)) (rfl) ?_
  refine lv_istore_n (lv' := [(2, .int (nI (BEST (sD v) (sT v) b))), (0, .ref (a 0)), (1, .int (nI (b)))]) hx hb dL_areMovesSo_5 rfl hl (by decide) rfl (fun ls hl => ?_)
  refine lv_aload_n hx hb dL_areMovesSo_6 rfl (lv_at hl 1 rfl) ?_
  refine lv_iload_n hx hb dL_areMovesSo_7 rfl (lv_at hl 2 rfl) ?_
  refine lv_iload_n hx hb dL_areMovesSo_8 rfl (lv_at hl 0 rfl) ?_
  refine kPi (va_runV (As := [.int (nI (b)), .int (nI (BEST (sD v) (sT v) b))]) (rest := []) ⟨hx, hb, hml, hown, hts⟩ (c_X8_distance a v b (BEST (sD v) (sT v) b) hd ht hb4 (by omega) (oW_now hP)) (cwV 2 hts gL_areMovesSo_X8_distance rfl rfl rfl (by decide +kernel) ⟨(Nat.le_of_ble_eq_true rfl), (Nat.le_of_ble_eq_true rfl)⟩) (preV hC hS hLo (oW_obj hP) (ci := 7) (q0 := 0) rfl rfl) rfl rfl hl.1 rfl (lv_room (Nat.le_of_ble_eq_true rfl)) dL_areMovesSo_9 ⟨(Nat.le_of_ble_eq_true rfl), (Nat.le_of_ble_eq_true rfl)⟩) hS (fun locs hS => ?_)
  refine topE (v' := iI (DIST (sD v) (sT v) b (BEST (sD v) (sT v) b))) (rfl) ?_
  refine lv_istore_n (lv' := [(3, .int (iI (DIST (sD v) (sT v) b (BEST (sD v) (sT v) b)))), (2, .int (nI (BEST (sD v) (sT v) b))), (0, .ref (a 0)), (1, .int (nI (b)))]) hx hb dL_areMovesSo_12 rfl hl (by decide) rfl (fun ls hl => ?_)
  refine lv_iload_n hx hb dL_areMovesSo_13 rfl (lv_at hl 1 rfl) ?_
  refine kPi (va_runS (As := [.int (nI (BEST (sD v) (sT v) b))]) (rest := []) ⟨hx, hb, hml, hown, hts⟩ (c_L_steps (BEST (sD v) (sT v) b) (by first | assumption | omega)) (va_cwS 1 hts gL_areMovesSo_L_steps rfl rfl rfl (by decide +kernel) ⟨Nat.le_of_ble_eq_true rfl, Nat.le_of_ble_eq_true rfl⟩) (preS hC hS hLo) rfl rfl hl.1 rfl (lv_room (Nat.le_of_ble_eq_true rfl)) dL_areMovesSo_14 ⟨Nat.zero_le _, Nat.zero_le _⟩) hS (fun locs hS => ?_)
  refine lv_istore (lv' := [(4, .int (nI (lenM (BEST (sD v) (sT v) b)))), (3, .int (iI (DIST (sD v) (sT v) b (BEST (sD v) (sT v) b)))), (2, .int (nI (BEST (sD v) (sT v) b))), (0, .ref (a 0)), (1, .int (nI (b)))]) hx hb dL_areMovesSo_17 hl (by decide) rfl (fun ls hl => ?_)
  refine lv_iconst (v := nI (0)) hx hb dL_areMovesSo_19 (by decide) ?_
  refine lv_istore (lv' := [(5, .int (nI (0))), (4, .int (nI (lenM (BEST (sD v) (sT v) b)))), (3, .int (iI (DIST (sD v) (sT v) b (BEST (sD v) (sT v) b)))), (2, .int (nI (BEST (sD v) (sT v) b))), (0, .ref (a 0)), (1, .int (nI (b)))]) hx hb dL_areMovesSo_20 hl (by decide) rfl (fun ls hl => ?_)
  refine lv_bipush (v := nI (66)) hx hb dL_areMovesSo_22 (by decide) ?_
  refine lv_istore (lv' := [(6, .int (nI (66))), (5, .int (nI (0))), (4, .int (nI (lenM (BEST (sD v) (sT v) b)))), (3, .int (iI (DIST (sD v) (sT v) b (BEST (sD v) (sT v) b)))), (2, .int (nI (BEST (sD v) (sT v) b))), (0, .ref (a 0)), (1, .int (nI (b)))]) hx hb dL_areMovesSo_24 hl (by decide) rfl (fun ls hl => ?_)
  refine lv_iload_n hx hb dL_areMovesSo_26 rfl (lv_at hl 4 rfl) ?_
  refine lv_aload_n hx hb dL_areMovesSo_27 rfl (lv_at hl 5 rfl) ?_
  refine lv_iload_n hx hb dL_areMovesSo_28 rfl (lv_at hl 6 rfl) ?_
  refine kPi (va_runV (As := [.int (nI (b))]) (rest := [.int (nI (BEST (sD v) (sT v) b))]) ⟨hx, hb, hml, hown, hts⟩ (c_X8_bestMoveByStopping a v b hd ht hb4 (oW_now hP)) (cwV 1 hts gL_areMovesSo_X8_bestMoveByStopping rfl rfl rfl (by decide +kernel) ⟨(Nat.le_of_ble_eq_true rfl), (Nat.le_of_ble_eq_true rfl)⟩) (preV hC hS hLo (oW_obj hP) (ci := 7) (q0 := 0) rfl rfl) rfl rfl hl.1 rfl (lv_room (Nat.le_of_ble_eq_true rfl)) dL_areMovesSo_29 ⟨(Nat.le_of_ble_eq_true rfl), (Nat.le_of_ble_eq_true rfl)⟩) hS (fun locs hS => ?_)
  refine topE (v' := nI (BEST (sD v) (sT v) b)) (congrArg nI (bsS_BEST hd ht b)) ?_
  refine lv_icmp_ne (tgt := 39) hx hb dL_areMovesSo_32 (by decide) (fun c_1 => ?_) (fun c_1 => ?_)
  · have f_2 := c_1
    exact absurd rfl f_2
  · have f_3 := c_1
    refine lv_iconst (v := nI (1)) hx hb dL_areMovesSo_35 (by decide) ?_
    refine lv_goto (tgt := 40) hx hb dL_areMovesSo_36 (by decide) ?_
    refine lv_istore (lv' := [(7, .int (nI (1))), (6, .int (nI (66))), (5, .int (nI (0))), (4, .int (nI (lenM (BEST (sD v) (sT v) b)))), (3, .int (iI (DIST (sD v) (sT v) b (BEST (sD v) (sT v) b)))), (2, .int (nI (BEST (sD v) (sT v) b))), (0, .ref (a 0)), (1, .int (nI (b)))]) hx hb dL_areMovesSo_40 hl (by decide) rfl (fun ls hl => ?_)
    refine lv_iconst (v := nI (0)) hx hb dL_areMovesSo_42 (by decide) ?_
    refine lv_istore (lv' := [(8, .int (nI (0))), (7, .int (nI (1))), (6, .int (nI (66))), (5, .int (nI (0))), (4, .int (nI (lenM (BEST (sD v) (sT v) b)))), (3, .int (iI (DIST (sD v) (sT v) b (BEST (sD v) (sT v) b)))), (2, .int (nI (BEST (sD v) (sT v) b))), (0, .ref (a 0)), (1, .int (nI (b)))]) hx hb dL_areMovesSo_43 hl (by decide) rfl (fun ls hl => ?_)
    have L_45 : ∀ (n_45 : Nat) (mv : Nat), 25 - mv < n_45 → (mv ≤ 25) → ∀ (locs : List Loc) (ls : Array Slot), va_S A s.heap s.heap locs → lv_has ls 11 [(0, .ref (a 0)), (1, .int (nI (b))), (2, .int (nI (BEST (sD v) (sT v) b))), (3, .int (iI (DIST (sD v) (sT v) b (BEST (sD v) (sT v) b)))), (4, .int (nI (lenM (BEST (sD v) (sT v) b)))), (5, .int (nI (cntE (DIST (sD v) (sT v) b) (DIST (sD v) (sT v) b (BEST (sD v) (sT v) b)) mv))), (6, .int (nI (66))), (7, .int (nI (1))), (8, .int (nI (mv)))] → W pg l ev ({ frames := 5, cells := 0, slots := 0, locals := 117 } : Room) s m (([.ref (a 0), .int (nI (b))] : List Value).toArray) below meth c s.heap locs 0 0 (MQ below (va_Qi (fun (r : Int32) (u : JT) => r = nI 1 ∧ OKJ u ∧ jH u = jH j) (fun (u : JT) t9 => PP G (oW G a v u) t9.heap) A) (([.ref (a 0), .int (nI (b))] : List Value).toArray) s 0 0 A) (F0 m 45 ls []) := by
      intro n_45
      induction n_45 with
      | zero => intro mv hn; exact absurd hn (Nat.not_lt_zero _)
      | succ n_45 ih_45 =>
        intro mv hn_45 hi9 locs ls hS hl
        refine lv_iload hx hb dL_areMovesSo_45 (lv_at hl 8 rfl) ?_
        refine lv_bipush (v := nI (25)) hx hb dL_areMovesSo_47 (by decide) ?_
        refine lv_icmp_ge (tgt := 141) hx hb dL_areMovesSo_49 (by decide) (fun c_4 => ?_) (fun c_4 => ?_)
        · have f_5 : (25 : Int) ≤ ((mv : Nat) : Int) := (c_le (nI_toInt (n := 25) (by omega)) (nI_toInt (n := mv) (by omega))).mp c_4
          have e_mv : mv = 25 := by omega
          replace e_mv := e_mv.symm
          subst e_mv
          refine lv_iconst (v := nI (1)) hx hb dL_areMovesSo_141 (by decide) ?_
          refine lv_istore (lv' := [(8, .int (nI (1))), (0, .ref (a 0)), (1, .int (nI (b))), (2, .int (nI (BEST (sD v) (sT v) b))), (3, .int (iI (DIST (sD v) (sT v) b (BEST (sD v) (sT v) b)))), (4, .int (nI (lenM (BEST (sD v) (sT v) b)))), (5, .int (nI (cntE (DIST (sD v) (sT v) b) (DIST (sD v) (sT v) b (BEST (sD v) (sT v) b)) 25))), (6, .int (nI (66))), (7, .int (nI (1)))]) hx hb dL_areMovesSo_142 hl (by decide) rfl (fun ls hl => ?_)
          have L_144 : ∀ (n_144 : Nat) (q bf : Nat) (jj : JT), 9 - q < n_144 → (1 ≤ q) → (q ≤ 9) → (q < 9 → BTM (sD v) (sT v) b q ≤ bf) → (bf ≤ 66) → (OKJ jj) → (jH jj = jH j) → ∀ (H : Heap) (locs : List Loc) (ls : Array Slot), PP G (oW G a v jj) H → va_D A (oW G a v jj) → va_S A s.heap H locs → lv_has ls 11 [(0, .ref (a 0)), (1, .int (nI (b))), (2, .int (nI (BEST (sD v) (sT v) b))), (3, .int (iI (DIST (sD v) (sT v) b (BEST (sD v) (sT v) b)))), (4, .int (nI (lenM (BEST (sD v) (sT v) b)))), (5, .int (nI (cntE (DIST (sD v) (sT v) b) (DIST (sD v) (sT v) b (BEST (sD v) (sT v) b)) 25))), (6, .int (nI (bf))), (7, .int (nI (1))), (8, .int (nI (q)))] → W pg l ev ({ frames := 5, cells := 0, slots := 0, locals := 117 } : Room) s m (([.ref (a 0), .int (nI (b))] : List Value).toArray) below meth c H locs 0 0 (MQ below (va_Qi (fun (r : Int32) (u : JT) => r = nI 1 ∧ OKJ u ∧ jH u = jH j) (fun (u : JT) t9 => PP G (oW G a v u) t9.heap) A) (([.ref (a 0), .int (nI (b))] : List Value).toArray) s 0 0 A) (F0 m 144 ls []) := by
            intro n_144
            induction n_144 with
            | zero => intro q bf jj hn; exact absurd hn (Nat.not_lt_zero _)
            | succ n_144 ih_144 =>
              intro q bf jj hn_144 hq1 hq9 hbf hbf6 hjj hje H locs ls hP hD hS hl
              refine lv_iload hx hb dL_areMovesSo_144 (lv_at hl 8 rfl) ?_
              refine lv_bipush (v := nI (9)) hx hb dL_areMovesSo_146 (by decide) ?_
              refine lv_icmp_ge (tgt := 292) hx hb dL_areMovesSo_148 (by decide) (fun c_6 => ?_) (fun c_6 => ?_)
              · have f_7 : (9 : Int) ≤ ((q : Nat) : Int) := (c_le (nI_toInt (n := 9) (by omega)) (nI_toInt (n := q) (by omega))).mp c_6
                refine lv_iload hx hb dL_areMovesSo_292 (lv_at hl 7 rfl) ?_
                refine lv_if_eq (tgt := 311) hx hb dL_areMovesSo_294 (by decide) (fun c_8 => ?_) (fun c_8 => ?_)
                · have f_9 : (1 : Int) = (0 : Int) := (c_eq (nI_toInt (n := 1) (by omega)) rfl).mp c_8
                  exfalso; omega
                · have f_10 : ¬ (1 : Int) = (0 : Int) := fun z => c_8 ((c_eq (nI_toInt (n := 1) (by omega)) rfl).mpr z)
                  refine lv_aload_n hx hb dL_areMovesSo_297 rfl (lv_at hl 0 rfl) ?_
                  refine lv_iload_n hx hb dL_areMovesSo_298 rfl (lv_at hl 1 rfl) ?_
                  refine kPi (va_runV (As := [.int (nI (b))]) (rest := []) ⟨hx, hb, hml, hown, hts⟩ (c_X8_equalMoves a v b hd ht hb4 (oW_now hP)) (cwV 1 hts gL_areMovesSo_X8_equalMoves rfl rfl rfl (by decide +kernel) ⟨(Nat.le_of_ble_eq_true rfl), (Nat.le_of_ble_eq_true rfl)⟩) (preV hC hS hLo (oW_obj hP) (ci := 7) (q0 := 0) rfl rfl) rfl rfl hl.1 rfl (lv_room (Nat.le_of_ble_eq_true rfl)) dL_areMovesSo_299 ⟨(Nat.le_of_ble_eq_true rfl), (Nat.le_of_ble_eq_true rfl)⟩) hS (fun locs hS => ?_)
                  refine topE (v' := nI (cntE (DIST (sD v) (sT v) b) (DIST (sD v) (sT v) b (BEST (sD v) (sT v) b)) 25)) (congrArg nI (cnt_BEST hd ht b)) ?_
                  refine lv_iload hx hb dL_areMovesSo_302 (lv_at hl 5 rfl) ?_
                  refine lv_icmp_ne (tgt := 311) hx hb dL_areMovesSo_304 (by decide) (fun c_11 => ?_) (fun c_11 => ?_)
                  · have f_12 := c_11
                    exact absurd rfl f_12
                  · have f_13 := c_11
                    refine lv_iconst (v := nI (1)) hx hb dL_areMovesSo_307 (by decide) ?_
                    refine lv_goto (tgt := 312) hx hb dL_areMovesSo_308 (by decide) ?_
                    exact xMi (G := G) (post := (fun (r : Int32) (u : JT) => r = nI 1 ∧ OKJ u ∧ jH u = jH j)) (w1 := (fun (u : JT) => oW G a v u)) (jj) hx hb hr hlocks hP hS (by exact ⟨rfl, hjj, hje⟩) (by exact rfl) dL_areMovesSo_312
              · have f_14 : ¬ (9 : Int) ≤ ((q : Nat) : Int) := fun z => c_6 ((c_le (nI_toInt (n := 9) (by omega)) (nI_toInt (n := q) (by omega))).mpr z)
                have hbf := hbf (by omega)
                refine lv_aload_n hx hb dL_areMovesSo_151 rfl (lv_at hl 0 rfl) ?_
                refine lv_iload_n hx hb dL_areMovesSo_152 rfl (lv_at hl 1 rfl) ?_
                refine lv_iload hx hb dL_areMovesSo_153 (lv_at hl 8 rfl) ?_
                refine kWi (va_runV (As := [.int (nI (b)), .int (nI (q))]) (rest := []) ⟨hx, hb, hml, hown, hts⟩ (o_kindWith a v jj b q hv0 hb4 (by omega) hjj hP (hD.weaken (fun _ _ _ h => hLo _ h))) (cwV 2 hts gL_areMovesSo_X8_kindWith rfl rfl rfl (by decide +kernel) ⟨(Nat.le_of_ble_eq_true rfl), (Nat.le_of_ble_eq_true rfl)⟩) (preV hC hS hLo (oW_obj hP) (ci := 7) (q0 := 0) rfl rfl) rfl rfl hl.1 rfl (lv_room (Nat.le_of_ble_eq_true rfl)) dL_areMovesSo_155 ⟨(Nat.le_of_ble_eq_true rfl), (Nat.le_of_ble_eq_true rfl)⟩) hP hD hS hA (fun _ => oW_fst) (fun r_17 u_15 H locs q_16 hP hD hS => ?_)
                have hP : PP G (oW G a v u_15) H := hP
                have hD : va_D A (oW G a v u_15) := hD
                have hje := q_16.2.2.trans hje
                have hjj := q_16.2.1
                refine topE (v' := nI (KDM (sD v) (sT v) b q)) (q_16.1) ?_
                refine lv_istore (lv' := [(9, .int (nI (KDM (sD v) (sT v) b q))), (0, .ref (a 0)), (1, .int (nI (b))), (2, .int (nI (BEST (sD v) (sT v) b))), (3, .int (iI (DIST (sD v) (sT v) b (BEST (sD v) (sT v) b)))), (4, .int (nI (lenM (BEST (sD v) (sT v) b)))), (5, .int (nI (cntE (DIST (sD v) (sT v) b) (DIST (sD v) (sT v) b (BEST (sD v) (sT v) b)) 25))), (6, .int (nI (bf))), (7, .int (nI (1))), (8, .int (nI (q)))]) hx hb dL_areMovesSo_158 hl (by decide) rfl (fun ls hl => ?_)
                refine lv_aload_n hx hb dL_areMovesSo_160 rfl (lv_at hl 1 rfl) ?_
                refine lv_iload_n hx hb dL_areMovesSo_161 rfl (lv_at hl 2 rfl) ?_
                refine lv_iload hx hb dL_areMovesSo_162 (lv_at hl 9 rfl) ?_
                refine kWi (va_runV (As := [.int (nI (b)), .int (nI (q))]) (rest := []) ⟨hx, hb, hml, hown, hts⟩ (o_bitsWith a v u_15 b q hv0 hb4 (by omega) hjj hP (hD.weaken (fun _ _ _ h => hLo _ h))) (cwV 2 hts gL_areMovesSo_X8_bitsWith rfl rfl rfl (by decide +kernel) ⟨(Nat.le_of_ble_eq_true rfl), (Nat.le_of_ble_eq_true rfl)⟩) (preV hC hS hLo (oW_obj hP) (ci := 7) (q0 := 0) rfl rfl) rfl rfl hl.1 rfl (lv_room (Nat.le_of_ble_eq_true rfl)) dL_areMovesSo_164 ⟨(Nat.le_of_ble_eq_true rfl), (Nat.le_of_ble_eq_true rfl)⟩) hP hD hS hA (fun _ => oW_fst) (fun r_20 u_18 H locs q_19 hP hD hS => ?_)
                have hP : PP G (oW G a v u_18) H := hP
                have hD : va_D A (oW G a v u_18) := hD
                have hje := q_19.2.2.trans hje
                have hjj := q_19.2.1
                refine topE (v' := nI (BTM (sD v) (sT v) b q)) (q_19.1) ?_
                refine lv_istore (lv' := [(10, .int (nI (BTM (sD v) (sT v) b q))), (9, .int (nI (KDM (sD v) (sT v) b q))), (0, .ref (a 0)), (1, .int (nI (b))), (2, .int (nI (BEST (sD v) (sT v) b))), (3, .int (iI (DIST (sD v) (sT v) b (BEST (sD v) (sT v) b)))), (4, .int (nI (lenM (BEST (sD v) (sT v) b)))), (5, .int (nI (cntE (DIST (sD v) (sT v) b) (DIST (sD v) (sT v) b (BEST (sD v) (sT v) b)) 25))), (6, .int (nI (bf))), (7, .int (nI (1))), (8, .int (nI (q)))]) hx hb dL_areMovesSo_167 hl (by decide) rfl (fun ls hl => ?_)
                have hbt := BTM_in (sD v) (sT v) b q
                have hkc := KDM_c (sD v) (sT v) b q
                have hk0 : ¬ KDM (sD v) (sT v) b q = 0 ∨ BTM (sD v) (sT v) b q = 66 := (Decidable.em (KDM (sD v) (sT v) b q = 0)).elim (fun z => Or.inr (btM_0 z).symm) Or.inl
                have hk1 : ¬ KDM (sD v) (sT v) b q = 1 ∨ (BTM (sD v) (sT v) b q = 1 ∧ BEST (sD v) (sT v) b = 12) := (Decidable.em (KDM (sD v) (sT v) b q = 1)).elim (fun z => Or.inr ⟨(btM_1 z).symm, KDM_1 z⟩) Or.inl
                have hk2 : ¬ KDM (sD v) (sT v) b q = 2 ∨ (22 ≤ BTM (sD v) (sT v) b q ∧ (0 < DIST (sD v) (sT v) b (BEST (sD v) (sT v) b) ∨ (BTM (sD v) (sT v) b q = 22 ∧ ¬ BEST (sD v) (sT v) b = 12))) := (Decidable.em (KDM (sD v) (sT v) b q = 2)).elim (fun z => Or.inr ⟨(KDM_2 hd ht (by omega) z).1, (Int.lt_or_le 0 (DIST (sD v) (sT v) b (BEST (sD v) (sT v) b))).elim Or.inl (fun y => Or.inr (BTM_22 hd ht (by omega) z y))⟩) Or.inl
                have hk3 : 0 < DIST (sD v) (sT v) b (BEST (sD v) (sT v) b) ∨ 0 < KDM (sD v) (sT v) b q := (Int.lt_or_le 0 (DIST (sD v) (sT v) b (BEST (sD v) (sT v) b))).elim Or.inl (fun y => Or.inr (KDM_0 hd ht (by omega) y))
                refine lv_iload hx hb dL_areMovesSo_169 (lv_at hl 9 rfl) ?_
                refine lv_if_eq (tgt := 279) hx hb dL_areMovesSo_171 (by decide) (fun c_21 => ?_) (fun c_21 => ?_)
                · have f_22 : (1 : Int) = (0 : Int) := (c_eq (nI_toInt (n := 1) (by omega)) rfl).mp c_21
                  exfalso; omega
                · have f_23 : ¬ (1 : Int) = (0 : Int) := fun z => c_21 ((c_eq (nI_toInt (n := 1) (by omega)) rfl).mpr z)
                  refine lv_iload hx hb dL_areMovesSo_174 (lv_at hl 0 rfl) ?_
                  refine lv_aload_n hx hb dL_areMovesSo_176 rfl (lv_at hl 2 rfl) ?_
                  refine lv_iload_n hx hb dL_areMovesSo_177 rfl (lv_at hl 3 rfl) ?_
                  refine lv_iload hx hb dL_areMovesSo_178 (lv_at hl 10 rfl) ?_
                  refine kWi (va_runV (As := [.int (nI (b)), .int (nI (q))]) (rest := [.int (nI (BTM (sD v) (sT v) b q))]) ⟨hx, hb, hml, hown, hts⟩ (o_bitsByWriting a v u_18 b q hv0 hb4 (by omega) hjj hP (hD.weaken (fun _ _ _ h => hLo _ h))) (cwV 2 hts gL_areMovesSo_X8_bitsByWriting rfl rfl rfl (by decide +kernel) ⟨(Nat.le_of_ble_eq_true rfl), (Nat.le_of_ble_eq_true rfl)⟩) (preV hC hS hLo (oW_obj hP) (ci := 7) (q0 := 0) rfl rfl) rfl rfl hl.1 rfl (lv_room (Nat.le_of_ble_eq_true rfl)) dL_areMovesSo_180 ⟨(Nat.le_of_ble_eq_true rfl), (Nat.le_of_ble_eq_true rfl)⟩) hP hD hS hA (fun _ => oW_fst) (fun r_26 u_24 H locs q_25 hP hD hS => ?_)
                  have hP : PP G (oW G a v u_24) H := hP
                  have hD : va_D A (oW G a v u_24) := hD
                  have hje := q_25.2.2.trans hje
                  have hjj := q_25.2.1
                  refine topE (v' := nI (BTM (sD v) (sT v) b q)) (q_25.1) ?_
                  refine lv_icmp_ne (tgt := 279) hx hb dL_areMovesSo_183 (by decide) (fun c_27 => ?_) (fun c_27 => ?_)
                  · have f_28 := c_27
                    exact absurd rfl f_28
                  · have f_29 := c_27
                    refine lv_iload hx hb dL_areMovesSo_186 (lv_at hl 0 rfl) ?_
                    refine lv_iload hx hb dL_areMovesSo_188 (lv_at hl 8 rfl) ?_
                    refine lv_icmp_gt (tgt := 279) hx hb dL_areMovesSo_190 (by decide) (fun c_30 => ?_) (fun c_30 => ?_)
                    · have f_31 : ((bf : Nat) : Int) < ((BTM (sD v) (sT v) b q : Nat) : Int) := (c_lt (nI_toInt (n := bf) (by omega)) (nI_toInt (n := BTM (sD v) (sT v) b q) (by omega))).mp c_30
                      exfalso; omega
                    · have f_32 : ¬ ((bf : Nat) : Int) < ((BTM (sD v) (sT v) b q : Nat) : Int) := fun z => c_30 ((c_lt (nI_toInt (n := bf) (by omega)) (nI_toInt (n := BTM (sD v) (sT v) b q) (by omega))).mpr z)
                      refine lv_iload hx hb dL_areMovesSo_193 (lv_at hl 1 rfl) ?_
                      refine lv_if_ne (tgt := 208) hx hb dL_areMovesSo_195 (by decide) (fun c_33 => ?_) (fun c_33 => ?_)
                      · have f_34 : ¬ ((KDM (sD v) (sT v) b q : Nat) : Int) = (0 : Int) := fun z => c_33 ((c_eq (nI_toInt (n := KDM (sD v) (sT v) b q) (by omega)) rfl).mpr z)
                        refine lv_iload hx hb dL_areMovesSo_208 (lv_at hl 1 rfl) ?_
                        refine lv_iconst (v := nI (1)) hx hb dL_areMovesSo_210 (by decide) ?_
                        refine lv_icmp_ne (tgt := 229) hx hb dL_areMovesSo_211 (by decide) (fun c_35 => ?_) (fun c_35 => ?_)
                        · have f_36 : ¬ ((KDM (sD v) (sT v) b q : Nat) : Int) = (1 : Int) := fun z => c_35 ((c_eq (nI_toInt (n := KDM (sD v) (sT v) b q) (by omega)) (nI_toInt (n := 1) (by omega))).mpr z)
                          refine lv_iload hx hb dL_areMovesSo_229 (lv_at hl 1 rfl) ?_
                          refine lv_iconst (v := nI (2)) hx hb dL_areMovesSo_231 (by decide) ?_
                          refine lv_icmp_ne (tgt := 279) hx hb dL_areMovesSo_232 (by decide) (fun c_37 => ?_) (fun c_37 => ?_)
                          · have f_38 : ¬ ((KDM (sD v) (sT v) b q : Nat) : Int) = (2 : Int) := fun z => c_37 ((c_eq (nI_toInt (n := KDM (sD v) (sT v) b q) (by omega)) (nI_toInt (n := 2) (by omega))).mpr z)
                            exfalso; omega
                          · have f_39 : ((KDM (sD v) (sT v) b q : Nat) : Int) = (2 : Int) := (c_eq (nI_toInt (n := KDM (sD v) (sT v) b q) (by omega)) (nI_toInt (n := 2) (by omega))).mp c_37
                            refine lv_iload hx hb dL_areMovesSo_235 (lv_at hl 0 rfl) ?_
                            refine lv_bipush (v := nI (22)) hx hb dL_areMovesSo_237 (by decide) ?_
                            refine lv_icmp_lt (tgt := 279) hx hb dL_areMovesSo_239 (by decide) (fun c_40 => ?_) (fun c_40 => ?_)
                            · have f_41 : ((BTM (sD v) (sT v) b q : Nat) : Int) < (22 : Int) := (c_lt (nI_toInt (n := BTM (sD v) (sT v) b q) (by omega)) (nI_toInt (n := 22) (by omega))).mp c_40
                              exfalso; omega
                            · have f_42 : ¬ ((BTM (sD v) (sT v) b q : Nat) : Int) < (22 : Int) := fun z => c_40 ((c_lt (nI_toInt (n := BTM (sD v) (sT v) b q) (by omega)) (nI_toInt (n := 22) (by omega))).mpr z)
                              refine lv_iload hx hb dL_areMovesSo_242 (lv_at hl 0 rfl) ?_
                              refine lv_bipush (v := nI (66)) hx hb dL_areMovesSo_244 (by decide) ?_
                              refine lv_icmp_gt (tgt := 279) hx hb dL_areMovesSo_246 (by decide) (fun c_43 => ?_) (fun c_43 => ?_)
                              · have f_44 : (66 : Int) < ((BTM (sD v) (sT v) b q : Nat) : Int) := (c_lt (nI_toInt (n := 66) (by omega)) (nI_toInt (n := BTM (sD v) (sT v) b q) (by omega))).mp c_43
                                exfalso; omega
                              · have f_45 : ¬ (66 : Int) < ((BTM (sD v) (sT v) b q : Nat) : Int) := fun z => c_43 ((c_lt (nI_toInt (n := 66) (by omega)) (nI_toInt (n := BTM (sD v) (sT v) b q) (by omega))).mpr z)
                                refine lv_iload_n hx hb dL_areMovesSo_249 rfl (lv_at hl 5 rfl) ?_
                                refine lv_if_gt (tgt := 266) hx hb dL_areMovesSo_250 (by decide) (fun c_46 => ?_) (fun c_46 => ?_)
                                · have f_47 : (0 : Int) < (DIST (sD v) (sT v) b (BEST (sD v) (sT v) b)) := (c_lt rfl (iI_toInt (by omega) (by omega))).mp c_46
                                  refine lv_iload_n hx hb dL_areMovesSo_266 rfl (lv_at hl 5 rfl) ?_
                                  refine lv_if_gt (tgt := 275) hx hb dL_areMovesSo_267 (by decide) (fun c_48 => ?_) (fun c_48 => ?_)
                                  · have f_49 : (0 : Int) < (DIST (sD v) (sT v) b (BEST (sD v) (sT v) b)) := (c_lt rfl (iI_toInt (by omega) (by omega))).mp c_48
                                    refine lv_iconst (v := nI (1)) hx hb dL_areMovesSo_275 (by decide) ?_
                                    refine lv_goto (tgt := 280) hx hb dL_areMovesSo_276 (by decide) ?_
                                    refine lv_istore (lv' := [(7, .int (nI (1))), (10, .int (nI (BTM (sD v) (sT v) b q))), (9, .int (nI (KDM (sD v) (sT v) b q))), (0, .ref (a 0)), (1, .int (nI (b))), (2, .int (nI (BEST (sD v) (sT v) b))), (3, .int (iI (DIST (sD v) (sT v) b (BEST (sD v) (sT v) b)))), (4, .int (nI (lenM (BEST (sD v) (sT v) b)))), (5, .int (nI (cntE (DIST (sD v) (sT v) b) (DIST (sD v) (sT v) b (BEST (sD v) (sT v) b)) 25))), (6, .int (nI (bf))), (8, .int (nI (q)))]) hx hb dL_areMovesSo_280 hl (by decide) rfl (fun ls hl => ?_)
                                    refine lv_iload hx hb dL_areMovesSo_282 (lv_at hl 1 rfl) ?_
                                    refine lv_istore (lv' := [(6, .int (nI (BTM (sD v) (sT v) b q))), (7, .int (nI (1))), (10, .int (nI (BTM (sD v) (sT v) b q))), (9, .int (nI (KDM (sD v) (sT v) b q))), (0, .ref (a 0)), (1, .int (nI (b))), (2, .int (nI (BEST (sD v) (sT v) b))), (3, .int (iI (DIST (sD v) (sT v) b (BEST (sD v) (sT v) b)))), (4, .int (nI (lenM (BEST (sD v) (sT v) b)))), (5, .int (nI (cntE (DIST (sD v) (sT v) b) (DIST (sD v) (sT v) b (BEST (sD v) (sT v) b)) 25))), (8, .int (nI (q)))]) hx hb dL_areMovesSo_284 hl (by decide) rfl (fun ls hl => ?_)
                                    refine lv_iinc (v := nI (q + 1)) (lv' := [(8, .int (nI (q + 1))), (6, .int (nI (BTM (sD v) (sT v) b q))), (7, .int (nI (1))), (10, .int (nI (BTM (sD v) (sT v) b q))), (9, .int (nI (KDM (sD v) (sT v) b q))), (0, .ref (a 0)), (1, .int (nI (b))), (2, .int (nI (BEST (sD v) (sT v) b))), (3, .int (iI (DIST (sD v) (sT v) b (BEST (sD v) (sT v) b)))), (4, .int (nI (lenM (BEST (sD v) (sT v) b)))), (5, .int (nI (cntE (DIST (sD v) (sT v) b) (DIST (sD v) (sT v) b (BEST (sD v) (sT v) b)) 25)))]) hx hb dL_areMovesSo_286 hl (k := 10) rfl (inc_p q 1) (by decide) rfl (fun ls hl => ?_)
                                    refine lv_goto (tgt := 144) hx hb dL_areMovesSo_289 (by decide) ?_
                                    exact ih_144 (q + 1) (BTM (sD v) (sT v) b q) u_24 (by omega) (by omega) (by omega) (fun z => BTM_mono hd ht b (by omega)) (BTM_in _ _ _ _).2 hjj hje H locs ls hP hD hS (lv_sub hl [5, 6, 7, 8, 9, 10, 1, 2, 0] ((lvc rfl (lvc rfl (lvc rfl (lvc rfl (lvc rfl (lvc rfl (lvc (congrArg Value.int (rfl)) (lvc rfl (lvc (congrArg Value.int (rfl)) rfl)))))))))))
                                  · have f_50 : ¬ (0 : Int) < (DIST (sD v) (sT v) b (BEST (sD v) (sT v) b)) := fun z => c_48 ((c_lt rfl (iI_toInt (by omega) (by omega))).mpr z)
                                    refine lv_iload hx hb dL_areMovesSo_270 (lv_at hl 1 rfl) ?_
                                    refine lv_if_le (tgt := 279) hx hb dL_areMovesSo_272 (by decide) (fun c_51 => ?_) (fun c_51 => ?_)
                                    · have f_52 : ((KDM (sD v) (sT v) b q : Nat) : Int) ≤ (0 : Int) := (c_le (nI_toInt (n := KDM (sD v) (sT v) b q) (by omega)) rfl).mp c_51
                                      exfalso; omega
                                    · have f_53 : ¬ ((KDM (sD v) (sT v) b q : Nat) : Int) ≤ (0 : Int) := fun z => c_51 ((c_le (nI_toInt (n := KDM (sD v) (sT v) b q) (by omega)) rfl).mpr z)
                                      refine lv_iconst (v := nI (1)) hx hb dL_areMovesSo_275 (by decide) ?_
                                      refine lv_goto (tgt := 280) hx hb dL_areMovesSo_276 (by decide) ?_
                                      refine lv_istore (lv' := [(7, .int (nI (1))), (10, .int (nI (BTM (sD v) (sT v) b q))), (9, .int (nI (KDM (sD v) (sT v) b q))), (0, .ref (a 0)), (1, .int (nI (b))), (2, .int (nI (BEST (sD v) (sT v) b))), (3, .int (iI (DIST (sD v) (sT v) b (BEST (sD v) (sT v) b)))), (4, .int (nI (lenM (BEST (sD v) (sT v) b)))), (5, .int (nI (cntE (DIST (sD v) (sT v) b) (DIST (sD v) (sT v) b (BEST (sD v) (sT v) b)) 25))), (6, .int (nI (bf))), (8, .int (nI (q)))]) hx hb dL_areMovesSo_280 hl (by decide) rfl (fun ls hl => ?_)
                                      refine lv_iload hx hb dL_areMovesSo_282 (lv_at hl 1 rfl) ?_
                                      refine lv_istore (lv' := [(6, .int (nI (BTM (sD v) (sT v) b q))), (7, .int (nI (1))), (10, .int (nI (BTM (sD v) (sT v) b q))), (9, .int (nI (KDM (sD v) (sT v) b q))), (0, .ref (a 0)), (1, .int (nI (b))), (2, .int (nI (BEST (sD v) (sT v) b))), (3, .int (iI (DIST (sD v) (sT v) b (BEST (sD v) (sT v) b)))), (4, .int (nI (lenM (BEST (sD v) (sT v) b)))), (5, .int (nI (cntE (DIST (sD v) (sT v) b) (DIST (sD v) (sT v) b (BEST (sD v) (sT v) b)) 25))), (8, .int (nI (q)))]) hx hb dL_areMovesSo_284 hl (by decide) rfl (fun ls hl => ?_)
                                      refine lv_iinc (v := nI (q + 1)) (lv' := [(8, .int (nI (q + 1))), (6, .int (nI (BTM (sD v) (sT v) b q))), (7, .int (nI (1))), (10, .int (nI (BTM (sD v) (sT v) b q))), (9, .int (nI (KDM (sD v) (sT v) b q))), (0, .ref (a 0)), (1, .int (nI (b))), (2, .int (nI (BEST (sD v) (sT v) b))), (3, .int (iI (DIST (sD v) (sT v) b (BEST (sD v) (sT v) b)))), (4, .int (nI (lenM (BEST (sD v) (sT v) b)))), (5, .int (nI (cntE (DIST (sD v) (sT v) b) (DIST (sD v) (sT v) b (BEST (sD v) (sT v) b)) 25)))]) hx hb dL_areMovesSo_286 hl (k := 10) rfl (inc_p q 1) (by decide) rfl (fun ls hl => ?_)
                                      refine lv_goto (tgt := 144) hx hb dL_areMovesSo_289 (by decide) ?_
                                      exact ih_144 (q + 1) (BTM (sD v) (sT v) b q) u_24 (by omega) (by omega) (by omega) (fun z => BTM_mono hd ht b (by omega)) (BTM_in _ _ _ _).2 hjj hje H locs ls hP hD hS (lv_sub hl [5, 6, 7, 8, 9, 10, 1, 2, 0] ((lvc rfl (lvc rfl (lvc rfl (lvc rfl (lvc rfl (lvc rfl (lvc (congrArg Value.int (rfl)) (lvc rfl (lvc (congrArg Value.int (rfl)) rfl)))))))))))
                                · have f_54 : ¬ (0 : Int) < (DIST (sD v) (sT v) b (BEST (sD v) (sT v) b)) := fun z => c_46 ((c_lt rfl (iI_toInt (by omega) (by omega))).mpr z)
                                  refine lv_iload hx hb dL_areMovesSo_253 (lv_at hl 0 rfl) ?_
                                  refine lv_bipush (v := nI (22)) hx hb dL_areMovesSo_255 (by decide) ?_
                                  refine lv_icmp_ne (tgt := 279) hx hb dL_areMovesSo_257 (by decide) (fun c_55 => ?_) (fun c_55 => ?_)
                                  · have f_56 : ¬ ((BTM (sD v) (sT v) b q : Nat) : Int) = (22 : Int) := fun z => c_55 ((c_eq (nI_toInt (n := BTM (sD v) (sT v) b q) (by omega)) (nI_toInt (n := 22) (by omega))).mpr z)
                                    exfalso; omega
                                  · have f_57 : ((BTM (sD v) (sT v) b q : Nat) : Int) = (22 : Int) := (c_eq (nI_toInt (n := BTM (sD v) (sT v) b q) (by omega)) (nI_toInt (n := 22) (by omega))).mp c_55
                                    refine lv_iload_n hx hb dL_areMovesSo_260 rfl (lv_at hl 4 rfl) ?_
                                    refine lv_bipush (v := nI (12)) hx hb dL_areMovesSo_261 (by decide) ?_
                                    refine lv_icmp_eq (tgt := 279) hx hb dL_areMovesSo_263 (by decide) (fun c_58 => ?_) (fun c_58 => ?_)
                                    · have f_59 : ((BEST (sD v) (sT v) b : Nat) : Int) = (12 : Int) := (c_eq (nI_toInt (n := BEST (sD v) (sT v) b) (by omega)) (nI_toInt (n := 12) (by omega))).mp c_58
                                      exfalso; omega
                                    · have f_60 : ¬ ((BEST (sD v) (sT v) b : Nat) : Int) = (12 : Int) := fun z => c_58 ((c_eq (nI_toInt (n := BEST (sD v) (sT v) b) (by omega)) (nI_toInt (n := 12) (by omega))).mpr z)
                                      refine lv_iload_n hx hb dL_areMovesSo_266 rfl (lv_at hl 5 rfl) ?_
                                      refine lv_if_gt (tgt := 275) hx hb dL_areMovesSo_267 (by decide) (fun c_61 => ?_) (fun c_61 => ?_)
                                      · have f_62 : (0 : Int) < (DIST (sD v) (sT v) b (BEST (sD v) (sT v) b)) := (c_lt rfl (iI_toInt (by omega) (by omega))).mp c_61
                                        refine lv_iconst (v := nI (1)) hx hb dL_areMovesSo_275 (by decide) ?_
                                        refine lv_goto (tgt := 280) hx hb dL_areMovesSo_276 (by decide) ?_
                                        refine lv_istore (lv' := [(7, .int (nI (1))), (10, .int (nI (BTM (sD v) (sT v) b q))), (9, .int (nI (KDM (sD v) (sT v) b q))), (0, .ref (a 0)), (1, .int (nI (b))), (2, .int (nI (BEST (sD v) (sT v) b))), (3, .int (iI (DIST (sD v) (sT v) b (BEST (sD v) (sT v) b)))), (4, .int (nI (lenM (BEST (sD v) (sT v) b)))), (5, .int (nI (cntE (DIST (sD v) (sT v) b) (DIST (sD v) (sT v) b (BEST (sD v) (sT v) b)) 25))), (6, .int (nI (bf))), (8, .int (nI (q)))]) hx hb dL_areMovesSo_280 hl (by decide) rfl (fun ls hl => ?_)
                                        refine lv_iload hx hb dL_areMovesSo_282 (lv_at hl 1 rfl) ?_
                                        refine lv_istore (lv' := [(6, .int (nI (BTM (sD v) (sT v) b q))), (7, .int (nI (1))), (10, .int (nI (BTM (sD v) (sT v) b q))), (9, .int (nI (KDM (sD v) (sT v) b q))), (0, .ref (a 0)), (1, .int (nI (b))), (2, .int (nI (BEST (sD v) (sT v) b))), (3, .int (iI (DIST (sD v) (sT v) b (BEST (sD v) (sT v) b)))), (4, .int (nI (lenM (BEST (sD v) (sT v) b)))), (5, .int (nI (cntE (DIST (sD v) (sT v) b) (DIST (sD v) (sT v) b (BEST (sD v) (sT v) b)) 25))), (8, .int (nI (q)))]) hx hb dL_areMovesSo_284 hl (by decide) rfl (fun ls hl => ?_)
                                        refine lv_iinc (v := nI (q + 1)) (lv' := [(8, .int (nI (q + 1))), (6, .int (nI (BTM (sD v) (sT v) b q))), (7, .int (nI (1))), (10, .int (nI (BTM (sD v) (sT v) b q))), (9, .int (nI (KDM (sD v) (sT v) b q))), (0, .ref (a 0)), (1, .int (nI (b))), (2, .int (nI (BEST (sD v) (sT v) b))), (3, .int (iI (DIST (sD v) (sT v) b (BEST (sD v) (sT v) b)))), (4, .int (nI (lenM (BEST (sD v) (sT v) b)))), (5, .int (nI (cntE (DIST (sD v) (sT v) b) (DIST (sD v) (sT v) b (BEST (sD v) (sT v) b)) 25)))]) hx hb dL_areMovesSo_286 hl (k := 10) rfl (inc_p q 1) (by decide) rfl (fun ls hl => ?_)
                                        refine lv_goto (tgt := 144) hx hb dL_areMovesSo_289 (by decide) ?_
                                        exact ih_144 (q + 1) (BTM (sD v) (sT v) b q) u_24 (by omega) (by omega) (by omega) (fun z => BTM_mono hd ht b (by omega)) (BTM_in _ _ _ _).2 hjj hje H locs ls hP hD hS (lv_sub hl [5, 6, 7, 8, 9, 10, 1, 2, 0] ((lvc rfl (lvc rfl (lvc rfl (lvc rfl (lvc rfl (lvc rfl (lvc (congrArg Value.int (rfl)) (lvc rfl (lvc (congrArg Value.int (rfl)) rfl)))))))))))
                                      · have f_63 : ¬ (0 : Int) < (DIST (sD v) (sT v) b (BEST (sD v) (sT v) b)) := fun z => c_61 ((c_lt rfl (iI_toInt (by omega) (by omega))).mpr z)
                                        refine lv_iload hx hb dL_areMovesSo_270 (lv_at hl 1 rfl) ?_
                                        refine lv_if_le (tgt := 279) hx hb dL_areMovesSo_272 (by decide) (fun c_64 => ?_) (fun c_64 => ?_)
                                        · have f_65 : ((KDM (sD v) (sT v) b q : Nat) : Int) ≤ (0 : Int) := (c_le (nI_toInt (n := KDM (sD v) (sT v) b q) (by omega)) rfl).mp c_64
                                          exfalso; omega
                                        · have f_66 : ¬ ((KDM (sD v) (sT v) b q : Nat) : Int) ≤ (0 : Int) := fun z => c_64 ((c_le (nI_toInt (n := KDM (sD v) (sT v) b q) (by omega)) rfl).mpr z)
                                          refine lv_iconst (v := nI (1)) hx hb dL_areMovesSo_275 (by decide) ?_
                                          refine lv_goto (tgt := 280) hx hb dL_areMovesSo_276 (by decide) ?_
                                          refine lv_istore (lv' := [(7, .int (nI (1))), (10, .int (nI (BTM (sD v) (sT v) b q))), (9, .int (nI (KDM (sD v) (sT v) b q))), (0, .ref (a 0)), (1, .int (nI (b))), (2, .int (nI (BEST (sD v) (sT v) b))), (3, .int (iI (DIST (sD v) (sT v) b (BEST (sD v) (sT v) b)))), (4, .int (nI (lenM (BEST (sD v) (sT v) b)))), (5, .int (nI (cntE (DIST (sD v) (sT v) b) (DIST (sD v) (sT v) b (BEST (sD v) (sT v) b)) 25))), (6, .int (nI (bf))), (8, .int (nI (q)))]) hx hb dL_areMovesSo_280 hl (by decide) rfl (fun ls hl => ?_)
                                          refine lv_iload hx hb dL_areMovesSo_282 (lv_at hl 1 rfl) ?_
                                          refine lv_istore (lv' := [(6, .int (nI (BTM (sD v) (sT v) b q))), (7, .int (nI (1))), (10, .int (nI (BTM (sD v) (sT v) b q))), (9, .int (nI (KDM (sD v) (sT v) b q))), (0, .ref (a 0)), (1, .int (nI (b))), (2, .int (nI (BEST (sD v) (sT v) b))), (3, .int (iI (DIST (sD v) (sT v) b (BEST (sD v) (sT v) b)))), (4, .int (nI (lenM (BEST (sD v) (sT v) b)))), (5, .int (nI (cntE (DIST (sD v) (sT v) b) (DIST (sD v) (sT v) b (BEST (sD v) (sT v) b)) 25))), (8, .int (nI (q)))]) hx hb dL_areMovesSo_284 hl (by decide) rfl (fun ls hl => ?_)
                                          refine lv_iinc (v := nI (q + 1)) (lv' := [(8, .int (nI (q + 1))), (6, .int (nI (BTM (sD v) (sT v) b q))), (7, .int (nI (1))), (10, .int (nI (BTM (sD v) (sT v) b q))), (9, .int (nI (KDM (sD v) (sT v) b q))), (0, .ref (a 0)), (1, .int (nI (b))), (2, .int (nI (BEST (sD v) (sT v) b))), (3, .int (iI (DIST (sD v) (sT v) b (BEST (sD v) (sT v) b)))), (4, .int (nI (lenM (BEST (sD v) (sT v) b)))), (5, .int (nI (cntE (DIST (sD v) (sT v) b) (DIST (sD v) (sT v) b (BEST (sD v) (sT v) b)) 25)))]) hx hb dL_areMovesSo_286 hl (k := 10) rfl (inc_p q 1) (by decide) rfl (fun ls hl => ?_)
                                          refine lv_goto (tgt := 144) hx hb dL_areMovesSo_289 (by decide) ?_
                                          exact ih_144 (q + 1) (BTM (sD v) (sT v) b q) u_24 (by omega) (by omega) (by omega) (fun z => BTM_mono hd ht b (by omega)) (BTM_in _ _ _ _).2 hjj hje H locs ls hP hD hS (lv_sub hl [5, 6, 7, 8, 9, 10, 1, 2, 0] ((lvc rfl (lvc rfl (lvc rfl (lvc rfl (lvc rfl (lvc rfl (lvc (congrArg Value.int (rfl)) (lvc rfl (lvc (congrArg Value.int (rfl)) rfl)))))))))))
                        · have f_67 : ((KDM (sD v) (sT v) b q : Nat) : Int) = (1 : Int) := (c_eq (nI_toInt (n := KDM (sD v) (sT v) b q) (by omega)) (nI_toInt (n := 1) (by omega))).mp c_35
                          refine lv_iload hx hb dL_areMovesSo_214 (lv_at hl 0 rfl) ?_
                          refine lv_iconst (v := nI (1)) hx hb dL_areMovesSo_216 (by decide) ?_
                          refine lv_icmp_ne (tgt := 279) hx hb dL_areMovesSo_217 (by decide) (fun c_68 => ?_) (fun c_68 => ?_)
                          · have f_69 : ¬ ((BTM (sD v) (sT v) b q : Nat) : Int) = (1 : Int) := fun z => c_68 ((c_eq (nI_toInt (n := BTM (sD v) (sT v) b q) (by omega)) (nI_toInt (n := 1) (by omega))).mpr z)
                            exfalso; omega
                          · have f_70 : ((BTM (sD v) (sT v) b q : Nat) : Int) = (1 : Int) := (c_eq (nI_toInt (n := BTM (sD v) (sT v) b q) (by omega)) (nI_toInt (n := 1) (by omega))).mp c_68
                            refine lv_iload_n hx hb dL_areMovesSo_220 rfl (lv_at hl 4 rfl) ?_
                            refine lv_bipush (v := nI (12)) hx hb dL_areMovesSo_221 (by decide) ?_
                            refine lv_icmp_ne (tgt := 279) hx hb dL_areMovesSo_223 (by decide) (fun c_71 => ?_) (fun c_71 => ?_)
                            · have f_72 : ¬ ((BEST (sD v) (sT v) b : Nat) : Int) = (12 : Int) := fun z => c_71 ((c_eq (nI_toInt (n := BEST (sD v) (sT v) b) (by omega)) (nI_toInt (n := 12) (by omega))).mpr z)
                              exfalso; omega
                            · have f_73 : ((BEST (sD v) (sT v) b : Nat) : Int) = (12 : Int) := (c_eq (nI_toInt (n := BEST (sD v) (sT v) b) (by omega)) (nI_toInt (n := 12) (by omega))).mp c_71
                              refine lv_goto (tgt := 266) hx hb dL_areMovesSo_226 (by decide) ?_
                              refine lv_iload_n hx hb dL_areMovesSo_266 rfl (lv_at hl 5 rfl) ?_
                              refine lv_if_gt (tgt := 275) hx hb dL_areMovesSo_267 (by decide) (fun c_74 => ?_) (fun c_74 => ?_)
                              · have f_75 : (0 : Int) < (DIST (sD v) (sT v) b (BEST (sD v) (sT v) b)) := (c_lt rfl (iI_toInt (by omega) (by omega))).mp c_74
                                refine lv_iconst (v := nI (1)) hx hb dL_areMovesSo_275 (by decide) ?_
                                refine lv_goto (tgt := 280) hx hb dL_areMovesSo_276 (by decide) ?_
                                refine lv_istore (lv' := [(7, .int (nI (1))), (10, .int (nI (BTM (sD v) (sT v) b q))), (9, .int (nI (KDM (sD v) (sT v) b q))), (0, .ref (a 0)), (1, .int (nI (b))), (2, .int (nI (BEST (sD v) (sT v) b))), (3, .int (iI (DIST (sD v) (sT v) b (BEST (sD v) (sT v) b)))), (4, .int (nI (lenM (BEST (sD v) (sT v) b)))), (5, .int (nI (cntE (DIST (sD v) (sT v) b) (DIST (sD v) (sT v) b (BEST (sD v) (sT v) b)) 25))), (6, .int (nI (bf))), (8, .int (nI (q)))]) hx hb dL_areMovesSo_280 hl (by decide) rfl (fun ls hl => ?_)
                                refine lv_iload hx hb dL_areMovesSo_282 (lv_at hl 1 rfl) ?_
                                refine lv_istore (lv' := [(6, .int (nI (BTM (sD v) (sT v) b q))), (7, .int (nI (1))), (10, .int (nI (BTM (sD v) (sT v) b q))), (9, .int (nI (KDM (sD v) (sT v) b q))), (0, .ref (a 0)), (1, .int (nI (b))), (2, .int (nI (BEST (sD v) (sT v) b))), (3, .int (iI (DIST (sD v) (sT v) b (BEST (sD v) (sT v) b)))), (4, .int (nI (lenM (BEST (sD v) (sT v) b)))), (5, .int (nI (cntE (DIST (sD v) (sT v) b) (DIST (sD v) (sT v) b (BEST (sD v) (sT v) b)) 25))), (8, .int (nI (q)))]) hx hb dL_areMovesSo_284 hl (by decide) rfl (fun ls hl => ?_)
                                refine lv_iinc (v := nI (q + 1)) (lv' := [(8, .int (nI (q + 1))), (6, .int (nI (BTM (sD v) (sT v) b q))), (7, .int (nI (1))), (10, .int (nI (BTM (sD v) (sT v) b q))), (9, .int (nI (KDM (sD v) (sT v) b q))), (0, .ref (a 0)), (1, .int (nI (b))), (2, .int (nI (BEST (sD v) (sT v) b))), (3, .int (iI (DIST (sD v) (sT v) b (BEST (sD v) (sT v) b)))), (4, .int (nI (lenM (BEST (sD v) (sT v) b)))), (5, .int (nI (cntE (DIST (sD v) (sT v) b) (DIST (sD v) (sT v) b (BEST (sD v) (sT v) b)) 25)))]) hx hb dL_areMovesSo_286 hl (k := 10) rfl (inc_p q 1) (by decide) rfl (fun ls hl => ?_)
                                refine lv_goto (tgt := 144) hx hb dL_areMovesSo_289 (by decide) ?_
                                exact ih_144 (q + 1) (BTM (sD v) (sT v) b q) u_24 (by omega) (by omega) (by omega) (fun z => BTM_mono hd ht b (by omega)) (BTM_in _ _ _ _).2 hjj hje H locs ls hP hD hS (lv_sub hl [5, 6, 7, 8, 9, 10, 1, 2, 0] ((lvc rfl (lvc rfl (lvc rfl (lvc rfl (lvc rfl (lvc rfl (lvc (congrArg Value.int (rfl)) (lvc rfl (lvc (congrArg Value.int (rfl)) rfl)))))))))))
                              · have f_76 : ¬ (0 : Int) < (DIST (sD v) (sT v) b (BEST (sD v) (sT v) b)) := fun z => c_74 ((c_lt rfl (iI_toInt (by omega) (by omega))).mpr z)
                                refine lv_iload hx hb dL_areMovesSo_270 (lv_at hl 1 rfl) ?_
                                refine lv_if_le (tgt := 279) hx hb dL_areMovesSo_272 (by decide) (fun c_77 => ?_) (fun c_77 => ?_)
                                · have f_78 : ((KDM (sD v) (sT v) b q : Nat) : Int) ≤ (0 : Int) := (c_le (nI_toInt (n := KDM (sD v) (sT v) b q) (by omega)) rfl).mp c_77
                                  exfalso; omega
                                · have f_79 : ¬ ((KDM (sD v) (sT v) b q : Nat) : Int) ≤ (0 : Int) := fun z => c_77 ((c_le (nI_toInt (n := KDM (sD v) (sT v) b q) (by omega)) rfl).mpr z)
                                  refine lv_iconst (v := nI (1)) hx hb dL_areMovesSo_275 (by decide) ?_
                                  refine lv_goto (tgt := 280) hx hb dL_areMovesSo_276 (by decide) ?_
                                  refine lv_istore (lv' := [(7, .int (nI (1))), (10, .int (nI (BTM (sD v) (sT v) b q))), (9, .int (nI (KDM (sD v) (sT v) b q))), (0, .ref (a 0)), (1, .int (nI (b))), (2, .int (nI (BEST (sD v) (sT v) b))), (3, .int (iI (DIST (sD v) (sT v) b (BEST (sD v) (sT v) b)))), (4, .int (nI (lenM (BEST (sD v) (sT v) b)))), (5, .int (nI (cntE (DIST (sD v) (sT v) b) (DIST (sD v) (sT v) b (BEST (sD v) (sT v) b)) 25))), (6, .int (nI (bf))), (8, .int (nI (q)))]) hx hb dL_areMovesSo_280 hl (by decide) rfl (fun ls hl => ?_)
                                  refine lv_iload hx hb dL_areMovesSo_282 (lv_at hl 1 rfl) ?_
                                  refine lv_istore (lv' := [(6, .int (nI (BTM (sD v) (sT v) b q))), (7, .int (nI (1))), (10, .int (nI (BTM (sD v) (sT v) b q))), (9, .int (nI (KDM (sD v) (sT v) b q))), (0, .ref (a 0)), (1, .int (nI (b))), (2, .int (nI (BEST (sD v) (sT v) b))), (3, .int (iI (DIST (sD v) (sT v) b (BEST (sD v) (sT v) b)))), (4, .int (nI (lenM (BEST (sD v) (sT v) b)))), (5, .int (nI (cntE (DIST (sD v) (sT v) b) (DIST (sD v) (sT v) b (BEST (sD v) (sT v) b)) 25))), (8, .int (nI (q)))]) hx hb dL_areMovesSo_284 hl (by decide) rfl (fun ls hl => ?_)
                                  refine lv_iinc (v := nI (q + 1)) (lv' := [(8, .int (nI (q + 1))), (6, .int (nI (BTM (sD v) (sT v) b q))), (7, .int (nI (1))), (10, .int (nI (BTM (sD v) (sT v) b q))), (9, .int (nI (KDM (sD v) (sT v) b q))), (0, .ref (a 0)), (1, .int (nI (b))), (2, .int (nI (BEST (sD v) (sT v) b))), (3, .int (iI (DIST (sD v) (sT v) b (BEST (sD v) (sT v) b)))), (4, .int (nI (lenM (BEST (sD v) (sT v) b)))), (5, .int (nI (cntE (DIST (sD v) (sT v) b) (DIST (sD v) (sT v) b (BEST (sD v) (sT v) b)) 25)))]) hx hb dL_areMovesSo_286 hl (k := 10) rfl (inc_p q 1) (by decide) rfl (fun ls hl => ?_)
                                  refine lv_goto (tgt := 144) hx hb dL_areMovesSo_289 (by decide) ?_
                                  exact ih_144 (q + 1) (BTM (sD v) (sT v) b q) u_24 (by omega) (by omega) (by omega) (fun z => BTM_mono hd ht b (by omega)) (BTM_in _ _ _ _).2 hjj hje H locs ls hP hD hS (lv_sub hl [5, 6, 7, 8, 9, 10, 1, 2, 0] ((lvc rfl (lvc rfl (lvc rfl (lvc rfl (lvc rfl (lvc rfl (lvc (congrArg Value.int (rfl)) (lvc rfl (lvc (congrArg Value.int (rfl)) rfl)))))))))))
                      · have f_80 : ((KDM (sD v) (sT v) b q : Nat) : Int) = (0 : Int) := (c_eq (nI_toInt (n := KDM (sD v) (sT v) b q) (by omega)) rfl).mp c_33
                        refine lv_iload hx hb dL_areMovesSo_198 (lv_at hl 0 rfl) ?_
                        refine lv_bipush (v := nI (66)) hx hb dL_areMovesSo_200 (by decide) ?_
                        refine lv_icmp_ne (tgt := 279) hx hb dL_areMovesSo_202 (by decide) (fun c_81 => ?_) (fun c_81 => ?_)
                        · have f_82 : ¬ ((BTM (sD v) (sT v) b q : Nat) : Int) = (66 : Int) := fun z => c_81 ((c_eq (nI_toInt (n := BTM (sD v) (sT v) b q) (by omega)) (nI_toInt (n := 66) (by omega))).mpr z)
                          exfalso; omega
                        · have f_83 : ((BTM (sD v) (sT v) b q : Nat) : Int) = (66 : Int) := (c_eq (nI_toInt (n := BTM (sD v) (sT v) b q) (by omega)) (nI_toInt (n := 66) (by omega))).mp c_81
                          refine lv_goto (tgt := 266) hx hb dL_areMovesSo_205 (by decide) ?_
                          refine lv_iload_n hx hb dL_areMovesSo_266 rfl (lv_at hl 5 rfl) ?_
                          refine lv_if_gt (tgt := 275) hx hb dL_areMovesSo_267 (by decide) (fun c_84 => ?_) (fun c_84 => ?_)
                          · have f_85 : (0 : Int) < (DIST (sD v) (sT v) b (BEST (sD v) (sT v) b)) := (c_lt rfl (iI_toInt (by omega) (by omega))).mp c_84
                            refine lv_iconst (v := nI (1)) hx hb dL_areMovesSo_275 (by decide) ?_
                            refine lv_goto (tgt := 280) hx hb dL_areMovesSo_276 (by decide) ?_
                            refine lv_istore (lv' := [(7, .int (nI (1))), (10, .int (nI (BTM (sD v) (sT v) b q))), (9, .int (nI (KDM (sD v) (sT v) b q))), (0, .ref (a 0)), (1, .int (nI (b))), (2, .int (nI (BEST (sD v) (sT v) b))), (3, .int (iI (DIST (sD v) (sT v) b (BEST (sD v) (sT v) b)))), (4, .int (nI (lenM (BEST (sD v) (sT v) b)))), (5, .int (nI (cntE (DIST (sD v) (sT v) b) (DIST (sD v) (sT v) b (BEST (sD v) (sT v) b)) 25))), (6, .int (nI (bf))), (8, .int (nI (q)))]) hx hb dL_areMovesSo_280 hl (by decide) rfl (fun ls hl => ?_)
                            refine lv_iload hx hb dL_areMovesSo_282 (lv_at hl 1 rfl) ?_
                            refine lv_istore (lv' := [(6, .int (nI (BTM (sD v) (sT v) b q))), (7, .int (nI (1))), (10, .int (nI (BTM (sD v) (sT v) b q))), (9, .int (nI (KDM (sD v) (sT v) b q))), (0, .ref (a 0)), (1, .int (nI (b))), (2, .int (nI (BEST (sD v) (sT v) b))), (3, .int (iI (DIST (sD v) (sT v) b (BEST (sD v) (sT v) b)))), (4, .int (nI (lenM (BEST (sD v) (sT v) b)))), (5, .int (nI (cntE (DIST (sD v) (sT v) b) (DIST (sD v) (sT v) b (BEST (sD v) (sT v) b)) 25))), (8, .int (nI (q)))]) hx hb dL_areMovesSo_284 hl (by decide) rfl (fun ls hl => ?_)
                            refine lv_iinc (v := nI (q + 1)) (lv' := [(8, .int (nI (q + 1))), (6, .int (nI (BTM (sD v) (sT v) b q))), (7, .int (nI (1))), (10, .int (nI (BTM (sD v) (sT v) b q))), (9, .int (nI (KDM (sD v) (sT v) b q))), (0, .ref (a 0)), (1, .int (nI (b))), (2, .int (nI (BEST (sD v) (sT v) b))), (3, .int (iI (DIST (sD v) (sT v) b (BEST (sD v) (sT v) b)))), (4, .int (nI (lenM (BEST (sD v) (sT v) b)))), (5, .int (nI (cntE (DIST (sD v) (sT v) b) (DIST (sD v) (sT v) b (BEST (sD v) (sT v) b)) 25)))]) hx hb dL_areMovesSo_286 hl (k := 10) rfl (inc_p q 1) (by decide) rfl (fun ls hl => ?_)
                            refine lv_goto (tgt := 144) hx hb dL_areMovesSo_289 (by decide) ?_
                            exact ih_144 (q + 1) (BTM (sD v) (sT v) b q) u_24 (by omega) (by omega) (by omega) (fun z => BTM_mono hd ht b (by omega)) (BTM_in _ _ _ _).2 hjj hje H locs ls hP hD hS (lv_sub hl [5, 6, 7, 8, 9, 10, 1, 2, 0] ((lvc rfl (lvc rfl (lvc rfl (lvc rfl (lvc rfl (lvc rfl (lvc (congrArg Value.int (rfl)) (lvc rfl (lvc (congrArg Value.int (rfl)) rfl)))))))))))
                          · have f_86 : ¬ (0 : Int) < (DIST (sD v) (sT v) b (BEST (sD v) (sT v) b)) := fun z => c_84 ((c_lt rfl (iI_toInt (by omega) (by omega))).mpr z)
                            refine lv_iload hx hb dL_areMovesSo_270 (lv_at hl 1 rfl) ?_
                            refine lv_if_le (tgt := 279) hx hb dL_areMovesSo_272 (by decide) (fun c_87 => ?_) (fun c_87 => ?_)
                            · have f_88 : ((KDM (sD v) (sT v) b q : Nat) : Int) ≤ (0 : Int) := (c_le (nI_toInt (n := KDM (sD v) (sT v) b q) (by omega)) rfl).mp c_87
                              exfalso; omega
                            · have f_89 : ¬ ((KDM (sD v) (sT v) b q : Nat) : Int) ≤ (0 : Int) := fun z => c_87 ((c_le (nI_toInt (n := KDM (sD v) (sT v) b q) (by omega)) rfl).mpr z)
                              refine lv_iconst (v := nI (1)) hx hb dL_areMovesSo_275 (by decide) ?_
                              refine lv_goto (tgt := 280) hx hb dL_areMovesSo_276 (by decide) ?_
                              refine lv_istore (lv' := [(7, .int (nI (1))), (10, .int (nI (BTM (sD v) (sT v) b q))), (9, .int (nI (KDM (sD v) (sT v) b q))), (0, .ref (a 0)), (1, .int (nI (b))), (2, .int (nI (BEST (sD v) (sT v) b))), (3, .int (iI (DIST (sD v) (sT v) b (BEST (sD v) (sT v) b)))), (4, .int (nI (lenM (BEST (sD v) (sT v) b)))), (5, .int (nI (cntE (DIST (sD v) (sT v) b) (DIST (sD v) (sT v) b (BEST (sD v) (sT v) b)) 25))), (6, .int (nI (bf))), (8, .int (nI (q)))]) hx hb dL_areMovesSo_280 hl (by decide) rfl (fun ls hl => ?_)
                              refine lv_iload hx hb dL_areMovesSo_282 (lv_at hl 1 rfl) ?_
                              refine lv_istore (lv' := [(6, .int (nI (BTM (sD v) (sT v) b q))), (7, .int (nI (1))), (10, .int (nI (BTM (sD v) (sT v) b q))), (9, .int (nI (KDM (sD v) (sT v) b q))), (0, .ref (a 0)), (1, .int (nI (b))), (2, .int (nI (BEST (sD v) (sT v) b))), (3, .int (iI (DIST (sD v) (sT v) b (BEST (sD v) (sT v) b)))), (4, .int (nI (lenM (BEST (sD v) (sT v) b)))), (5, .int (nI (cntE (DIST (sD v) (sT v) b) (DIST (sD v) (sT v) b (BEST (sD v) (sT v) b)) 25))), (8, .int (nI (q)))]) hx hb dL_areMovesSo_284 hl (by decide) rfl (fun ls hl => ?_)
                              refine lv_iinc (v := nI (q + 1)) (lv' := [(8, .int (nI (q + 1))), (6, .int (nI (BTM (sD v) (sT v) b q))), (7, .int (nI (1))), (10, .int (nI (BTM (sD v) (sT v) b q))), (9, .int (nI (KDM (sD v) (sT v) b q))), (0, .ref (a 0)), (1, .int (nI (b))), (2, .int (nI (BEST (sD v) (sT v) b))), (3, .int (iI (DIST (sD v) (sT v) b (BEST (sD v) (sT v) b)))), (4, .int (nI (lenM (BEST (sD v) (sT v) b)))), (5, .int (nI (cntE (DIST (sD v) (sT v) b) (DIST (sD v) (sT v) b (BEST (sD v) (sT v) b)) 25)))]) hx hb dL_areMovesSo_286 hl (k := 10) rfl (inc_p q 1) (by decide) rfl (fun ls hl => ?_)
                              refine lv_goto (tgt := 144) hx hb dL_areMovesSo_289 (by decide) ?_
                              exact ih_144 (q + 1) (BTM (sD v) (sT v) b q) u_24 (by omega) (by omega) (by omega) (fun z => BTM_mono hd ht b (by omega)) (BTM_in _ _ _ _).2 hjj hje H locs ls hP hD hS (lv_sub hl [5, 6, 7, 8, 9, 10, 1, 2, 0] ((lvc rfl (lvc rfl (lvc rfl (lvc rfl (lvc rfl (lvc rfl (lvc (congrArg Value.int (rfl)) (lvc rfl (lvc (congrArg Value.int (rfl)) rfl)))))))))))
          exact L_144 (8 + 1) 1 66 j (Nat.lt_succ_self _) (by omega) (by omega) (fun _ => (BTM_in _ _ _ _).2) (by omega) hj rfl s.heap locs ls hP hD hS (lv_sub hl [1, 2, 3, 4, 5, 6, 7, 8, 0] (lvc rfl (lvc rfl (lvc rfl (lvc rfl (lvc rfl (lvc rfl (lvc rfl (lvc rfl (lvc rfl rfl))))))))))
        · have f_90 : ¬ (25 : Int) ≤ ((mv : Nat) : Int) := fun z => c_4 ((c_le (nI_toInt (n := 25) (by omega)) (nI_toInt (n := mv) (by omega))).mpr z)
          have hDm := DIST_in hd ht b mv
          have hle := BEST_least (d := sD v) (t := sT v) b mv (by omega)
          have hti := BEST_tie (sD v) (sT v) b (m := mv) (by omega)
          have hlm := lenM_le (m := mv) (by omega)
          refine lv_aload_n hx hb dL_areMovesSo_52 rfl (lv_at hl 0 rfl) ?_
          refine lv_iload_n hx hb dL_areMovesSo_53 rfl (lv_at hl 1 rfl) ?_
          refine lv_iload hx hb dL_areMovesSo_54 (lv_at hl 8 rfl) ?_
          refine kPi (va_runV (As := [.int (nI (b)), .int (nI (mv))]) (rest := []) ⟨hx, hb, hml, hown, hts⟩ (c_X8_distance a v b mv hd ht hb4 (by omega) (oW_now hP)) (cwV 2 hts gL_areMovesSo_X8_distance rfl rfl rfl (by decide +kernel) ⟨(Nat.le_of_ble_eq_true rfl), (Nat.le_of_ble_eq_true rfl)⟩) (preV hC hS hLo (oW_obj hP) (ci := 7) (q0 := 0) rfl rfl) rfl rfl hl.1 rfl (lv_room (Nat.le_of_ble_eq_true rfl)) dL_areMovesSo_56 ⟨(Nat.le_of_ble_eq_true rfl), (Nat.le_of_ble_eq_true rfl)⟩) hS (fun locs hS => ?_)
          refine topE (v' := iI (DIST (sD v) (sT v) b mv)) (rfl) ?_
          refine lv_istore (lv' := [(9, .int (iI (DIST (sD v) (sT v) b mv))), (0, .ref (a 0)), (1, .int (nI (b))), (2, .int (nI (BEST (sD v) (sT v) b))), (3, .int (iI (DIST (sD v) (sT v) b (BEST (sD v) (sT v) b)))), (4, .int (nI (lenM (BEST (sD v) (sT v) b)))), (5, .int (nI (cntE (DIST (sD v) (sT v) b) (DIST (sD v) (sT v) b (BEST (sD v) (sT v) b)) mv))), (6, .int (nI (66))), (7, .int (nI (1))), (8, .int (nI (mv)))]) hx hb dL_areMovesSo_59 hl (by decide) rfl (fun ls hl => ?_)
          refine lv_iload hx hb dL_areMovesSo_61 (lv_at hl 6 rfl) ?_
          have J_74 : ∀ (locs : List Loc) (ls : Array Slot), va_S A s.heap s.heap locs → lv_has ls 11 [(0, .ref (a 0)), (1, .int (nI (b))), (2, .int (nI (BEST (sD v) (sT v) b))), (3, .int (iI (DIST (sD v) (sT v) b (BEST (sD v) (sT v) b)))), (4, .int (nI (lenM (BEST (sD v) (sT v) b)))), (5, .int (nI (cntE (DIST (sD v) (sT v) b) (DIST (sD v) (sT v) b (BEST (sD v) (sT v) b)) mv))), (6, .int (nI (66))), (7, .int (nI (1))), (8, .int (nI (mv))), (9, .int (iI (DIST (sD v) (sT v) b mv)))] → W pg l ev ({ frames := 5, cells := 0, slots := 0, locals := 117 } : Room) s m (([.ref (a 0), .int (nI (b))] : List Value).toArray) below meth c s.heap locs 0 0 (MQ below (va_Qi (fun (r : Int32) (u : JT) => r = nI 1 ∧ OKJ u ∧ jH u = jH j) (fun (u : JT) t9 => PP G (oW G a v u) t9.heap) A) (([.ref (a 0), .int (nI (b))] : List Value).toArray) s 0 0 A) (F0 m 74 ls [.int (nI ((if DIST (sD v) (sT v) b mv = DIST (sD v) (sT v) b (BEST (sD v) (sT v) b) then 1 else 0))), .int (nI (cntE (DIST (sD v) (sT v) b) (DIST (sD v) (sT v) b (BEST (sD v) (sT v) b)) mv))]) := by
            intro locs ls hS hl
            refine gAdd (z := nI ((cntE (DIST (sD v) (sT v) b) (DIST (sD v) (sT v) b (BEST (sD v) (sT v) b)) mv) + (if DIST (sD v) (sT v) b mv = DIST (sD v) (sT v) b (BEST (sD v) (sT v) b) then 1 else 0))) hx hb dL_areMovesSo_74 (nI_add _ _) ?_
            refine lv_istore (lv' := [(5, .int (nI ((cntE (DIST (sD v) (sT v) b) (DIST (sD v) (sT v) b (BEST (sD v) (sT v) b)) mv) + (if DIST (sD v) (sT v) b mv = DIST (sD v) (sT v) b (BEST (sD v) (sT v) b) then 1 else 0)))), (0, .ref (a 0)), (1, .int (nI (b))), (2, .int (nI (BEST (sD v) (sT v) b))), (3, .int (iI (DIST (sD v) (sT v) b (BEST (sD v) (sT v) b)))), (4, .int (nI (lenM (BEST (sD v) (sT v) b)))), (6, .int (nI (66))), (7, .int (nI (1))), (8, .int (nI (mv))), (9, .int (iI (DIST (sD v) (sT v) b mv)))]) hx hb dL_areMovesSo_75 hl (by decide) rfl (fun ls hl => ?_)
            refine lv_iload hx hb dL_areMovesSo_77 (lv_at hl 7 rfl) ?_
            refine lv_if_eq (tgt := 132) hx hb dL_areMovesSo_79 (by decide) (fun c_91 => ?_) (fun c_91 => ?_)
            · have f_92 : (1 : Int) = (0 : Int) := (c_eq (nI_toInt (n := 1) (by omega)) rfl).mp c_91
              exfalso; omega
            · have f_93 : ¬ (1 : Int) = (0 : Int) := fun z => c_91 ((c_eq (nI_toInt (n := 1) (by omega)) rfl).mpr z)
              refine lv_iload hx hb dL_areMovesSo_82 (lv_at hl 9 rfl) ?_
              refine lv_iload_n hx hb dL_areMovesSo_84 rfl (lv_at hl 4 rfl) ?_
              refine lv_icmp_lt (tgt := 132) hx hb dL_areMovesSo_85 (by decide) (fun c_94 => ?_) (fun c_94 => ?_)
              · have f_95 : (DIST (sD v) (sT v) b mv) < (DIST (sD v) (sT v) b (BEST (sD v) (sT v) b)) := (c_lt (iI_toInt (by omega) (by omega)) (iI_toInt (by omega) (by omega))).mp c_94
                exfalso; omega
              · have f_96 : ¬ (DIST (sD v) (sT v) b mv) < (DIST (sD v) (sT v) b (BEST (sD v) (sT v) b)) := fun z => c_94 ((c_lt (iI_toInt (by omega) (by omega)) (iI_toInt (by omega) (by omega))).mpr z)
                refine lv_iload hx hb dL_areMovesSo_88 (lv_at hl 9 rfl) ?_
                refine lv_sipush (v := nI (240)) hx hb dL_areMovesSo_90 (by decide) ?_
                refine lv_icmp_gt (tgt := 132) hx hb dL_areMovesSo_93 (by decide) (fun c_97 => ?_) (fun c_97 => ?_)
                · have f_98 : (240 : Int) < (DIST (sD v) (sT v) b mv) := (c_lt (nI_toInt (n := 240) (by omega)) (iI_toInt (by omega) (by omega))).mp c_97
                  exfalso; omega
                · have f_99 : ¬ (240 : Int) < (DIST (sD v) (sT v) b mv) := fun z => c_97 ((c_lt (nI_toInt (n := 240) (by omega)) (iI_toInt (by omega) (by omega))).mpr z)
                  refine lv_iload hx hb dL_areMovesSo_96 (lv_at hl 9 rfl) ?_
                  refine lv_iload_n hx hb dL_areMovesSo_98 rfl (lv_at hl 4 rfl) ?_
                  refine lv_icmp_gt (tgt := 128) hx hb dL_areMovesSo_99 (by decide) (fun c_100 => ?_) (fun c_100 => ?_)
                  · have f_101 : (DIST (sD v) (sT v) b (BEST (sD v) (sT v) b)) < (DIST (sD v) (sT v) b mv) := (c_lt (iI_toInt (by omega) (by omega)) (iI_toInt (by omega) (by omega))).mp c_100
                    refine lv_iconst (v := nI (1)) hx hb dL_areMovesSo_128 (by decide) ?_
                    refine lv_goto (tgt := 133) hx hb dL_areMovesSo_129 (by decide) ?_
                    refine lv_istore (lv' := [(7, .int (nI (1))), (5, .int (nI ((cntE (DIST (sD v) (sT v) b) (DIST (sD v) (sT v) b (BEST (sD v) (sT v) b)) mv) + (if DIST (sD v) (sT v) b mv = DIST (sD v) (sT v) b (BEST (sD v) (sT v) b) then 1 else 0)))), (0, .ref (a 0)), (1, .int (nI (b))), (2, .int (nI (BEST (sD v) (sT v) b))), (3, .int (iI (DIST (sD v) (sT v) b (BEST (sD v) (sT v) b)))), (4, .int (nI (lenM (BEST (sD v) (sT v) b)))), (6, .int (nI (66))), (8, .int (nI (mv))), (9, .int (iI (DIST (sD v) (sT v) b mv)))]) hx hb dL_areMovesSo_133 hl (by decide) rfl (fun ls hl => ?_)
                    refine lv_iinc (v := nI (mv + 1)) (lv' := [(8, .int (nI (mv + 1))), (7, .int (nI (1))), (5, .int (nI ((cntE (DIST (sD v) (sT v) b) (DIST (sD v) (sT v) b (BEST (sD v) (sT v) b)) mv) + (if DIST (sD v) (sT v) b mv = DIST (sD v) (sT v) b (BEST (sD v) (sT v) b) then 1 else 0)))), (0, .ref (a 0)), (1, .int (nI (b))), (2, .int (nI (BEST (sD v) (sT v) b))), (3, .int (iI (DIST (sD v) (sT v) b (BEST (sD v) (sT v) b)))), (4, .int (nI (lenM (BEST (sD v) (sT v) b)))), (6, .int (nI (66))), (9, .int (iI (DIST (sD v) (sT v) b mv)))]) hx hb dL_areMovesSo_135 hl (k := 8) rfl (inc_p mv 1) (by decide) rfl (fun ls hl => ?_)
                    refine lv_goto (tgt := 45) hx hb dL_areMovesSo_138 (by decide) ?_
                    exact ih_45 (mv + 1) (by omega) (by omega) locs ls hS (lv_sub hl [3, 4, 5, 6, 7, 2, 8, 1, 0] ((lvc rfl (lvc rfl (lvc rfl (lvc rfl (lvc rfl (lvc (congrArg Value.int (rfl)) (lvc rfl (lvc rfl (lvc (congrArg Value.int (rfl)) rfl)))))))))))
                  · have f_102 : ¬ (DIST (sD v) (sT v) b (BEST (sD v) (sT v) b)) < (DIST (sD v) (sT v) b mv) := fun z => c_100 ((c_lt (iI_toInt (by omega) (by omega)) (iI_toInt (by omega) (by omega))).mpr z)
                    refine lv_iload hx hb dL_areMovesSo_102 (lv_at hl 8 rfl) ?_
                    refine kPi (va_runS (As := [.int (nI (mv))]) (rest := []) ⟨hx, hb, hml, hown, hts⟩ (c_L_steps mv (by first | assumption | omega)) (va_cwS 1 hts gL_areMovesSo_L_steps rfl rfl rfl (by decide +kernel) ⟨Nat.le_of_ble_eq_true rfl, Nat.le_of_ble_eq_true rfl⟩) (preS hC hS hLo) rfl rfl hl.1 rfl (lv_room (Nat.le_of_ble_eq_true rfl)) dL_areMovesSo_104 ⟨Nat.zero_le _, Nat.zero_le _⟩) hS (fun locs hS => ?_)
                    refine lv_iload hx hb dL_areMovesSo_107 (lv_at hl 5 rfl) ?_
                    refine lv_icmp_gt (tgt := 128) hx hb dL_areMovesSo_109 (by decide) (fun c_103 => ?_) (fun c_103 => ?_)
                    · have f_104 : ((lenM (BEST (sD v) (sT v) b) : Nat) : Int) < ((lenM mv : Nat) : Int) := (c_lt (nI_toInt (n := lenM (BEST (sD v) (sT v) b)) (by omega)) (nI_toInt (n := lenM mv) (by omega))).mp c_103
                      refine lv_iconst (v := nI (1)) hx hb dL_areMovesSo_128 (by decide) ?_
                      refine lv_goto (tgt := 133) hx hb dL_areMovesSo_129 (by decide) ?_
                      refine lv_istore (lv' := [(7, .int (nI (1))), (5, .int (nI ((cntE (DIST (sD v) (sT v) b) (DIST (sD v) (sT v) b (BEST (sD v) (sT v) b)) mv) + (if DIST (sD v) (sT v) b mv = DIST (sD v) (sT v) b (BEST (sD v) (sT v) b) then 1 else 0)))), (0, .ref (a 0)), (1, .int (nI (b))), (2, .int (nI (BEST (sD v) (sT v) b))), (3, .int (iI (DIST (sD v) (sT v) b (BEST (sD v) (sT v) b)))), (4, .int (nI (lenM (BEST (sD v) (sT v) b)))), (6, .int (nI (66))), (8, .int (nI (mv))), (9, .int (iI (DIST (sD v) (sT v) b mv)))]) hx hb dL_areMovesSo_133 hl (by decide) rfl (fun ls hl => ?_)
                      refine lv_iinc (v := nI (mv + 1)) (lv' := [(8, .int (nI (mv + 1))), (7, .int (nI (1))), (5, .int (nI ((cntE (DIST (sD v) (sT v) b) (DIST (sD v) (sT v) b (BEST (sD v) (sT v) b)) mv) + (if DIST (sD v) (sT v) b mv = DIST (sD v) (sT v) b (BEST (sD v) (sT v) b) then 1 else 0)))), (0, .ref (a 0)), (1, .int (nI (b))), (2, .int (nI (BEST (sD v) (sT v) b))), (3, .int (iI (DIST (sD v) (sT v) b (BEST (sD v) (sT v) b)))), (4, .int (nI (lenM (BEST (sD v) (sT v) b)))), (6, .int (nI (66))), (9, .int (iI (DIST (sD v) (sT v) b mv)))]) hx hb dL_areMovesSo_135 hl (k := 8) rfl (inc_p mv 1) (by decide) rfl (fun ls hl => ?_)
                      refine lv_goto (tgt := 45) hx hb dL_areMovesSo_138 (by decide) ?_
                      exact ih_45 (mv + 1) (by omega) (by omega) locs ls hS (lv_sub hl [3, 4, 5, 6, 7, 2, 8, 1, 0] ((lvc rfl (lvc rfl (lvc rfl (lvc rfl (lvc rfl (lvc (congrArg Value.int (rfl)) (lvc rfl (lvc rfl (lvc (congrArg Value.int (rfl)) rfl)))))))))))
                    · have f_105 : ¬ ((lenM (BEST (sD v) (sT v) b) : Nat) : Int) < ((lenM mv : Nat) : Int) := fun z => c_103 ((c_lt (nI_toInt (n := lenM (BEST (sD v) (sT v) b)) (by omega)) (nI_toInt (n := lenM mv) (by omega))).mpr z)
                      refine lv_iload hx hb dL_areMovesSo_112 (lv_at hl 8 rfl) ?_
                      refine kPi (va_runS (As := [.int (nI (mv))]) (rest := []) ⟨hx, hb, hml, hown, hts⟩ (c_L_steps mv (by first | assumption | omega)) (va_cwS 1 hts gL_areMovesSo_L_steps rfl rfl rfl (by decide +kernel) ⟨Nat.le_of_ble_eq_true rfl, Nat.le_of_ble_eq_true rfl⟩) (preS hC hS hLo) rfl rfl hl.1 rfl (lv_room (Nat.le_of_ble_eq_true rfl)) dL_areMovesSo_114 ⟨Nat.zero_le _, Nat.zero_le _⟩) hS (fun locs hS => ?_)
                      refine lv_iload hx hb dL_areMovesSo_117 (lv_at hl 5 rfl) ?_
                      refine lv_icmp_ne (tgt := 132) hx hb dL_areMovesSo_119 (by decide) (fun c_106 => ?_) (fun c_106 => ?_)
                      · have f_107 : ¬ ((lenM mv : Nat) : Int) = ((lenM (BEST (sD v) (sT v) b) : Nat) : Int) := fun z => c_106 ((c_eq (nI_toInt (n := lenM mv) (by omega)) (nI_toInt (n := lenM (BEST (sD v) (sT v) b)) (by omega))).mpr z)
                        exfalso; omega
                      · have f_108 : ((lenM mv : Nat) : Int) = ((lenM (BEST (sD v) (sT v) b) : Nat) : Int) := (c_eq (nI_toInt (n := lenM mv) (by omega)) (nI_toInt (n := lenM (BEST (sD v) (sT v) b)) (by omega))).mp c_106
                        refine lv_iload hx hb dL_areMovesSo_122 (lv_at hl 8 rfl) ?_
                        refine lv_iload_n hx hb dL_areMovesSo_124 rfl (lv_at hl 3 rfl) ?_
                        refine lv_icmp_lt (tgt := 132) hx hb dL_areMovesSo_125 (by decide) (fun c_109 => ?_) (fun c_109 => ?_)
                        · have f_110 : ((mv : Nat) : Int) < ((BEST (sD v) (sT v) b : Nat) : Int) := (c_lt (nI_toInt (n := mv) (by omega)) (nI_toInt (n := BEST (sD v) (sT v) b) (by omega))).mp c_109
                          exfalso; omega
                        · have f_111 : ¬ ((mv : Nat) : Int) < ((BEST (sD v) (sT v) b : Nat) : Int) := fun z => c_109 ((c_lt (nI_toInt (n := mv) (by omega)) (nI_toInt (n := BEST (sD v) (sT v) b) (by omega))).mpr z)
                          refine lv_iconst (v := nI (1)) hx hb dL_areMovesSo_128 (by decide) ?_
                          refine lv_goto (tgt := 133) hx hb dL_areMovesSo_129 (by decide) ?_
                          refine lv_istore (lv' := [(7, .int (nI (1))), (5, .int (nI ((cntE (DIST (sD v) (sT v) b) (DIST (sD v) (sT v) b (BEST (sD v) (sT v) b)) mv) + (if DIST (sD v) (sT v) b mv = DIST (sD v) (sT v) b (BEST (sD v) (sT v) b) then 1 else 0)))), (0, .ref (a 0)), (1, .int (nI (b))), (2, .int (nI (BEST (sD v) (sT v) b))), (3, .int (iI (DIST (sD v) (sT v) b (BEST (sD v) (sT v) b)))), (4, .int (nI (lenM (BEST (sD v) (sT v) b)))), (6, .int (nI (66))), (8, .int (nI (mv))), (9, .int (iI (DIST (sD v) (sT v) b mv)))]) hx hb dL_areMovesSo_133 hl (by decide) rfl (fun ls hl => ?_)
                          refine lv_iinc (v := nI (mv + 1)) (lv' := [(8, .int (nI (mv + 1))), (7, .int (nI (1))), (5, .int (nI ((cntE (DIST (sD v) (sT v) b) (DIST (sD v) (sT v) b (BEST (sD v) (sT v) b)) mv) + (if DIST (sD v) (sT v) b mv = DIST (sD v) (sT v) b (BEST (sD v) (sT v) b) then 1 else 0)))), (0, .ref (a 0)), (1, .int (nI (b))), (2, .int (nI (BEST (sD v) (sT v) b))), (3, .int (iI (DIST (sD v) (sT v) b (BEST (sD v) (sT v) b)))), (4, .int (nI (lenM (BEST (sD v) (sT v) b)))), (6, .int (nI (66))), (9, .int (iI (DIST (sD v) (sT v) b mv)))]) hx hb dL_areMovesSo_135 hl (k := 8) rfl (inc_p mv 1) (by decide) rfl (fun ls hl => ?_)
                          refine lv_goto (tgt := 45) hx hb dL_areMovesSo_138 (by decide) ?_
                          exact ih_45 (mv + 1) (by omega) (by omega) locs ls hS (lv_sub hl [3, 4, 5, 6, 7, 2, 8, 1, 0] ((lvc rfl (lvc rfl (lvc rfl (lvc rfl (lvc rfl (lvc (congrArg Value.int (rfl)) (lvc rfl (lvc rfl (lvc (congrArg Value.int (rfl)) rfl)))))))))))
          refine lv_iload hx hb dL_areMovesSo_63 (lv_at hl 0 rfl) ?_
          refine lv_iload_n hx hb dL_areMovesSo_65 rfl (lv_at hl 4 rfl) ?_
          refine lv_icmp_ne (tgt := 73) hx hb dL_areMovesSo_66 (by decide) (fun c_112 => ?_) (fun c_112 => ?_)
          · have f_113 : ¬ (DIST (sD v) (sT v) b mv) = (DIST (sD v) (sT v) b (BEST (sD v) (sT v) b)) := fun z => c_112 ((c_eq (iI_toInt (by omega) (by omega)) (iI_toInt (by omega) (by omega))).mpr z)
            refine lv_iconst (v := nI (0)) hx hb dL_areMovesSo_73 (by decide) ?_
            refine topE (v' := nI ((if DIST (sD v) (sT v) b mv = DIST (sD v) (sT v) b (BEST (sD v) (sT v) b) then 1 else 0))) (by first | exact congrArg nI (if_pos (by omega)).symm | exact congrArg nI (if_neg (by omega)).symm) ?_
            exact J_74 locs ls hS (lv_sub hl [1, 2, 3, 4, 5, 6, 7, 8, 9, 0] (rfl))
          · have f_114 : (DIST (sD v) (sT v) b mv) = (DIST (sD v) (sT v) b (BEST (sD v) (sT v) b)) := (c_eq (iI_toInt (by omega) (by omega)) (iI_toInt (by omega) (by omega))).mp c_112
            refine lv_iconst (v := nI (1)) hx hb dL_areMovesSo_69 (by decide) ?_
            refine lv_goto (tgt := 74) hx hb dL_areMovesSo_70 (by decide) ?_
            refine topE (v' := nI ((if DIST (sD v) (sT v) b mv = DIST (sD v) (sT v) b (BEST (sD v) (sT v) b) then 1 else 0))) (by first | exact congrArg nI (if_pos (by omega)).symm | exact congrArg nI (if_neg (by omega)).symm) ?_
            exact J_74 locs ls hS (lv_sub hl [1, 2, 3, 4, 5, 6, 7, 8, 9, 0] (rfl))
    exact L_45 (25 + 1) 0 (Nat.lt_succ_self _) (by omega) locs ls hS (lv_sub hl [7, 8, 6, 5, 4, 3, 2, 1, 0] (lvc rfl (lvc rfl (lvc rfl (lvc rfl (lvc rfl (lvc (congrArg Value.int (rfl)) (lvc rfl (lvc rfl (lvc rfl rfl))))))))))
