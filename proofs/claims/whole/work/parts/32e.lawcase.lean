set_option maxHeartbeats 4000000 in
set_option maxRecDepth 100000 in
theorem lw_26_x1 {pg : Program} {l : Launch} {ev : Env} {s : State} {m : MethodId} {below : List Frame} {meth : Method} {c : Code} {Q : State → Prop} {G : GT} {bq L : Nat} {xs : Nat → Int32} (hLK : LK pg l s m meth c bq L xs G) (c0 s0 : Nat) (hroom : c0 + 1 ≤ 601024 ∧ s0 + 6 ≤ 7293034) (a : Nat → Nat) (v : SVT) (mo ki : Nat → Nat) (pr df : Nat → Int) (co : Int32) (bi : Nat) (g9 : Nat → Int32) (lr : Nat) (bf : Nat → Int) (tn : Nat → Nat) (ln nx ct : Nat) (hv : Nat → SVT) (v0 : SVT) (k0 : Nat) (v1 : SVT) (k1 : Nat) (oa : Nat) (of : Nat → Int64) (mh m1 m2 m3 m4 m5 : Nat) (ss hi sl : Nat → Int) (tx : Nat → Nat) (ne : Nat → Int) (th : Int32) (kn ke le : Nat) (sp wr si on tw dn : Int32) (i : Nat) (cu : Nat) (hi5 : i + 5 ≤ L) (hu : cu < 2 ^ 64) (hcs : CS cu = 0) (hle : le ≤ 80) (hac : ((xs (i + 1)).toInt64 <<< ((nI (32)).toInt64 &&& 63)) ||| ((xs (i + 2)).toInt64 &&& 4294967295) = lN cu) {H : Heap} {locs : List Loc} {ls : Array Slot} (hP : PP G (lwW G a v mo ki pr df co bi g9 lr bf tn ln nx ct hv v0 k0 v1 k1 oa of mh m1 m2 m3 m4 m5 ss hi sl tx ne th kn ke le sp wr si on tw dn) H) (hD : va_D (lo G) (lwW G a v mo ki pr df co bi g9 lr bf tn ln nx ct hv v0 k0 v1 k1 oa of mh m1 m2 m3 m4 m5 ss hi sl tx ne th kn ke le sp wr si on tw dn)) (hS : va_S (lo G) s.heap H locs) (hl : lv_has ls 7 [(0, .ref bq), (1, .ref (a 0)), (2, .ref mh), (3, .ref oa), (4, .int (nI (i)))])
    (hk : ∀ (H : Heap) (locs : List Loc) (ls : Array Slot), PP G (lwW G a v mo ki pr df co bi g9 lr bf tn ln nx ct hv v0 k0 v1 k1 oa of mh m1 m2 m3 m4 m5 ss hi sl tx ne (nI 1) kn ke le sp wr si on tw dn) H → va_D (lo G) (lwW G a v mo ki pr df co bi g9 lr bf tn ln nx ct hv v0 k0 v1 k1 oa of mh m1 m2 m3 m4 m5 ss hi sl tx ne (nI 1) kn ke le sp wr si on tw dn) → va_S (lo G) s.heap H locs → lv_has ls 7 [(0, .ref bq), (1, .ref (a 0)), (2, .ref mh), (3, .ref oa), (4, .int (nI (i)))] → W pg l ev room_1 s m #[Value.ref bq] below meth c H locs (c0 + 1) (s0 + 6) Q (F0 m 1768 ls [])) :
    W pg l ev room_1 s m #[Value.ref bq] below meth c H locs c0 s0 Q (F0 m 1428 ls []) := by
  obtain ⟨hx, hb, hml, hown, hts, hX, hbl, hCX, hgB, hfl, hL9⟩ := hLK
  have hC := hCX.1
  have hLo : ∀ q, lo G q → lo G q := fun _ h => h
  have hA : ∀ q, s.heap.size ≤ q → lo G q := fun q h => by show gB G ≤ q; rw [hgB]; exact h
  have hbA : ¬ lo G bq := by show ¬ gB G ≤ bq; rw [hgB]; omega
  refine lv_aload_n hx hb dL_law_1428 rfl (lv_at hl 1 rfl) ?_
  refine lv_aload_n hx hb dL_law_1429 rfl (lv_at hl 0 rfl) ?_
  refine lv_iload hx hb dL_law_1430 (lv_at hl 4 rfl) ?_
  refine lv_iconst (v := nI (1)) hx hb dL_law_1432 (by decide) ?_
  refine gAdd (z := nI (i + 1)) hx hb dL_law_1433 (nI_add _ _) ?_
  refine gScr (i := i + 1) (v := xs (i + 1)) hx hb hX hbl hbA hS (by omega) hL9 rfl dL_law_1434 ?_
  refine lv_i2l (v := (xs (i + 1)).toInt64) hx hb dL_law_1435 (rfl) ?_
  refine lv_bipush (v := nI (32)) hx hb dL_law_1436 (by decide) ?_
  refine lv_lshl (v := ((xs (i + 1)).toInt64) <<< ((nI (32)).toInt64 &&& 63)) hx hb dL_law_1438 (rfl) ?_
  refine lv_aload_n hx hb dL_law_1439 rfl (lv_at hl 0 rfl) ?_
  refine lv_iload hx hb dL_law_1440 (lv_at hl 4 rfl) ?_
  refine lv_iconst (v := nI (2)) hx hb dL_law_1442 (by decide) ?_
  refine gAdd (z := nI (i + 2)) hx hb dL_law_1443 (nI_add _ _) ?_
  refine gScr (i := i + 2) (v := xs (i + 2)) hx hb hX hbl hbA hS (by omega) hL9 rfl dL_law_1444 ?_
  refine lv_i2l (v := (xs (i + 2)).toInt64) hx hb dL_law_1445 (rfl) ?_
  refine lv_ldc2 (v := 4294967295) hx hb hown (hts (.constantLong RL 190 (4294967295)) (by decide +kernel)) dL_law_1446 ?_
  refine g_land (z := ((xs (i + 2)).toInt64) &&& 4294967295) hx hb dL_law_1449 (rfl) ?_
  refine g_lor (z := lN cu) hx hb dL_law_1450 (hac) ?_
  refine lv_aload_n hx hb dL_law_1451 rfl (lv_at hl 3 rfl) ?_
  refine kPreI (vx_runSW (As := [.ref (a 0), .long (lN cu), .ref oa]) (rest := []) ⟨hx, hb, hml, hown, hts⟩ (c_L_appendText_1 a v mo ki pr df co bi g9 lr bf tn ln nx ct hv v0 k0 v1 k1 oa of cu (hu) (hcs) hfl (PP_l hP) ((pre_D hD).weaken (fun _ _ _ h => hLo _ h))) (vx_cwSW 3 hts gL_law_L_appendText rfl rfl rfl (by decide +kernel) ⟨(Nat.le_of_ble_eq_true rfl), (Nat.le_of_ble_eq_true rfl)⟩) (preSX hCX hS hLo) rfl rfl hl.1 rfl (lv_room (Nat.le_of_ble_eq_true rfl)) dL_law_1452 ⟨by show c0 + _ ≤ 601024; omega, by show s0 + _ ≤ 7293034; omega⟩) hP hD hS hA (fun _ => lw_fst) (fun r_3 u_1 H locs q_2 hP hD hS => ?_)
  have hP : PP G (lwW G a v mo ki pr df co bi g9 lr bf tn ln nx ct hv v0 k0 v1 k1 oa of mh m1 m2 m3 m4 m5 ss hi sl tx ne th kn ke le sp wr si on tw dn) H := hP
  have hD : va_D (lo G) (lwW G a v mo ki pr df co bi g9 lr bf tn ln nx ct hv v0 k0 v1 k1 oa of mh m1 m2 m3 m4 m5 ss hi sl tx ne th kn ke le sp wr si on tw dn) := hD
  refine topE (v' := nI (1)) (q_2) ?_
  refine lv_istore (lv' := [(5, .int (nI (1))), (0, .ref bq), (1, .ref (a 0)), (2, .ref mh), (3, .ref oa), (4, .int (nI (i)))]) hx hb dL_law_1455 hl (by decide) rfl (fun ls hl => ?_)
  refine lv_aload_n hx hb dL_law_1457 rfl (lv_at hl 3 rfl) ?_
  refine lv_aload_n hx hb dL_law_1458 rfl (lv_at hl 1 rfl) ?_
  refine lv_iload hx hb dL_law_1459 (lv_at hl 5 rfl) ?_
  refine lv_iconst (v := nI (1)) hx hb dL_law_1461 (by decide) ?_
  refine gAdd (z := nI (i + 1)) hx hb dL_law_1462 (nI_add _ _) ?_
  refine gScr (i := i + 1) (v := xs (i + 1)) hx hb hX hbl hbA hS (by omega) hL9 rfl dL_law_1463 ?_
  refine lv_i2l (v := (xs (i + 1)).toInt64) hx hb dL_law_1464 (rfl) ?_
  refine lv_bipush (v := nI (32)) hx hb dL_law_1465 (by decide) ?_
  refine lv_lshl (v := ((xs (i + 1)).toInt64) <<< ((nI (32)).toInt64 &&& 63)) hx hb dL_law_1467 (rfl) ?_
  refine lv_aload_n hx hb dL_law_1468 rfl (lv_at hl 1 rfl) ?_
  refine lv_iload hx hb dL_law_1469 (lv_at hl 5 rfl) ?_
  refine lv_iconst (v := nI (2)) hx hb dL_law_1471 (by decide) ?_
  refine gAdd (z := nI (i + 2)) hx hb dL_law_1472 (nI_add _ _) ?_
  refine gScr (i := i + 2) (v := xs (i + 2)) hx hb hX hbl hbA hS (by omega) hL9 rfl dL_law_1473 ?_
  refine lv_i2l (v := (xs (i + 2)).toInt64) hx hb dL_law_1474 (rfl) ?_
  refine lv_ldc2 (v := 4294967295) hx hb hown (hts (.constantLong RL 190 (4294967295)) (by decide +kernel)) dL_law_1475 ?_
  refine g_land (z := ((xs (i + 2)).toInt64) &&& 4294967295) hx hb dL_law_1478 (rfl) ?_
  refine g_lor (z := lN cu) hx hb dL_law_1479 (hac) ?_
  refine kSufI (va_runV (As := [.long (lN cu)]) (rest := []) ⟨hx, hb, hml, hown, hts⟩ (c_X9_appendText_1 mh m1 m2 m3 m4 m5 ss hi sl tx ne th kn ke le sp wr si on tw dn cu (hu) (hle) (hcs) (PP_r hP) ((pre_D (va_D_swap hD)).weaken (fun _ _ _ h => hLo _ h))) (cwV 1 hts gL_law_X9_appendText rfl rfl rfl (by decide +kernel) ⟨(Nat.le_of_ble_eq_true rfl), (Nat.le_of_ble_eq_true rfl)⟩) (preV hC hS hLo (PP_r hP) (ci := 8) (q0 := 0) rfl rfl) rfl rfl hl.1 rfl (lv_room (Nat.le_of_ble_eq_true rfl)) dL_law_1480 ⟨by show c0 + _ ≤ 601024; omega, by show s0 + _ ≤ 7293034; omega⟩) hP hD hS hA (fun _ => rfl) (fun r_6 u_4 H locs q_5 hP hD hS => ?_)
  have hP : PP G (lwW G a v mo ki pr df co bi g9 lr bf tn ln nx ct hv v0 k0 v1 k1 oa of mh m1 m2 m3 m4 m5 ss hi sl tx ne (nI 1) kn ke le sp wr si on tw dn) H := hP
  have hD : va_D (lo G) (lwW G a v mo ki pr df co bi g9 lr bf tn ln nx ct hv v0 k0 v1 k1 oa of mh m1 m2 m3 m4 m5 ss hi sl tx ne (nI 1) kn ke le sp wr si on tw dn) := hD
  refine topE (v' := nI (0)) (q_5) ?_
  refine lv_istore (lv' := [(6, .int (nI (0))), (5, .int (nI (1))), (0, .ref bq), (1, .ref (a 0)), (2, .ref mh), (3, .ref oa), (4, .int (nI (i)))]) hx hb dL_law_1483 hl (by decide) rfl (fun ls hl => ?_)
  refine lv_aload_n hx hb dL_law_1485 rfl (lv_at hl 4 rfl) ?_
  refine kPi (va_runV (As := []) (rest := []) ⟨hx, hb, hml, hown, hts⟩ (c_X9_thrown mh m1 m2 m3 m4 m5 ss hi sl tx ne (nI (1)) kn ke le sp wr si on tw dn (PP_r hP)) (cwV 0 hts gL_law_X9_thrown rfl rfl rfl (by decide +kernel) ⟨(Nat.le_of_ble_eq_true rfl), (Nat.le_of_ble_eq_true rfl)⟩) (preV hC hS hLo (PP_r hP) (ci := 8) (q0 := 0) rfl rfl) rfl rfl hl.1 rfl (lv_room (Nat.le_of_ble_eq_true rfl)) dL_law_1486 ⟨by show c0 + _ ≤ 601024; omega, by show s0 + _ ≤ 7293034; omega⟩) hS (fun locs hS => ?_)
  refine lv_iload hx hb dL_law_1489 (lv_at hl 1 rfl) ?_
  refine lv_icmp_eq (tgt := 1496) hx hb dL_law_1491 (by decide) (fun c_7 => ?_) (fun c_7 => ?_)
  · have f_8 := c_7
    refine lv_iload hx hb dL_law_1496 (lv_at hl 1 rfl) ?_
    refine lv_if_ne (tgt := 1513) hx hb dL_law_1498 (by decide) (fun c_9 => ?_) (fun c_9 => ?_)
    · have f_10 : ¬ (1 : Int) = (0 : Int) := fun z => c_9 ((c_eq (nI_toInt (n := 1) (by omega)) rfl).mpr z)
      refine lv_goto (tgt := 1768) hx hb dL_law_1513 (by decide) ?_
      exact hk H locs ls hP hD hS (lv_sub hl [2, 3, 4, 5, 6] rfl)
    · have f_11 : (1 : Int) = (0 : Int) := (c_eq (nI_toInt (n := 1) (by omega)) rfl).mp c_9
      exfalso; omega
  · have f_12 := c_7
    exact absurd rfl f_12

set_option maxHeartbeats 4000000 in
set_option maxRecDepth 100000 in
theorem lw_26_x2 {pg : Program} {l : Launch} {ev : Env} {s : State} {m : MethodId} {below : List Frame} {meth : Method} {c : Code} {Q : State → Prop} {G : GT} {bq L : Nat} {xs : Nat → Int32} (hLK : LK pg l s m meth c bq L xs G) (c0 s0 : Nat) (hroom : c0 + 1 ≤ 601024 ∧ s0 + 6 ≤ 7293034) (a : Nat → Nat) (v : SVT) (mo ki : Nat → Nat) (pr df : Nat → Int) (co : Int32) (bi : Nat) (g9 : Nat → Int32) (lr : Nat) (bf : Nat → Int) (tn : Nat → Nat) (ln nx ct : Nat) (hv : Nat → SVT) (v0 : SVT) (k0 : Nat) (v1 : SVT) (k1 : Nat) (oa : Nat) (of : Nat → Int64) (mh m1 m2 m3 m4 m5 : Nat) (ss hi sl : Nat → Int) (tx : Nat → Nat) (ne : Nat → Int) (th : Int32) (kn ke le : Nat) (sp wr si on tw dn : Int32) (i : Nat) (cu : Nat) (hi5 : i + 5 ≤ L) (hu : cu < 2 ^ 64) (hcs : ¬ CS cu = 0) (hln : ln ≤ 80) (hlk : 80 < ln + CS cu) (hle : le ≤ 80) (hlk' : 80 < le + CS cu) (hac : ((xs (i + 1)).toInt64 <<< ((nI (32)).toInt64 &&& 63)) ||| ((xs (i + 2)).toInt64 &&& 4294967295) = lN cu) {H : Heap} {locs : List Loc} {ls : Array Slot} (hP : PP G (lwW G a v mo ki pr df co bi g9 lr bf tn ln nx ct hv v0 k0 v1 k1 oa of mh m1 m2 m3 m4 m5 ss hi sl tx ne th kn ke le sp wr si on tw dn) H) (hD : va_D (lo G) (lwW G a v mo ki pr df co bi g9 lr bf tn ln nx ct hv v0 k0 v1 k1 oa of mh m1 m2 m3 m4 m5 ss hi sl tx ne th kn ke le sp wr si on tw dn)) (hS : va_S (lo G) s.heap H locs) (hl : lv_has ls 7 [(0, .ref bq), (1, .ref (a 0)), (2, .ref mh), (3, .ref oa), (4, .int (nI (i)))])
    (hk : ∀ (H : Heap) (locs : List Loc) (ls : Array Slot), PP G (lwW G a v mo ki pr df co bi g9 lr bf tn ln nx ct hv v0 k0 v1 k1 oa of mh m1 m2 m3 m4 m5 ss hi sl tx ne (nI 2) kn ke le sp wr si on tw dn) H → va_D (lo G) (lwW G a v mo ki pr df co bi g9 lr bf tn ln nx ct hv v0 k0 v1 k1 oa of mh m1 m2 m3 m4 m5 ss hi sl tx ne (nI 2) kn ke le sp wr si on tw dn) → va_S (lo G) s.heap H locs → lv_has ls 7 [(0, .ref bq), (1, .ref (a 0)), (2, .ref mh), (3, .ref oa), (4, .int (nI (i)))] → W pg l ev room_1 s m #[Value.ref bq] below meth c H locs (c0 + 1) (s0 + 6) Q (F0 m 1768 ls [])) :
    W pg l ev room_1 s m #[Value.ref bq] below meth c H locs c0 s0 Q (F0 m 1428 ls []) := by
  obtain ⟨hx, hb, hml, hown, hts, hX, hbl, hCX, hgB, hfl, hL9⟩ := hLK
  have hC := hCX.1
  have hLo : ∀ q, lo G q → lo G q := fun _ h => h
  have hA : ∀ q, s.heap.size ≤ q → lo G q := fun q h => by show gB G ≤ q; rw [hgB]; exact h
  have hbA : ¬ lo G bq := by show ¬ gB G ≤ bq; rw [hgB]; omega
  refine lv_aload_n hx hb dL_law_1428 rfl (lv_at hl 1 rfl) ?_
  refine lv_aload_n hx hb dL_law_1429 rfl (lv_at hl 0 rfl) ?_
  refine lv_iload hx hb dL_law_1430 (lv_at hl 4 rfl) ?_
  refine lv_iconst (v := nI (1)) hx hb dL_law_1432 (by decide) ?_
  refine gAdd (z := nI (i + 1)) hx hb dL_law_1433 (nI_add _ _) ?_
  refine gScr (i := i + 1) (v := xs (i + 1)) hx hb hX hbl hbA hS (by omega) hL9 rfl dL_law_1434 ?_
  refine lv_i2l (v := (xs (i + 1)).toInt64) hx hb dL_law_1435 (rfl) ?_
  refine lv_bipush (v := nI (32)) hx hb dL_law_1436 (by decide) ?_
  refine lv_lshl (v := ((xs (i + 1)).toInt64) <<< ((nI (32)).toInt64 &&& 63)) hx hb dL_law_1438 (rfl) ?_
  refine lv_aload_n hx hb dL_law_1439 rfl (lv_at hl 0 rfl) ?_
  refine lv_iload hx hb dL_law_1440 (lv_at hl 4 rfl) ?_
  refine lv_iconst (v := nI (2)) hx hb dL_law_1442 (by decide) ?_
  refine gAdd (z := nI (i + 2)) hx hb dL_law_1443 (nI_add _ _) ?_
  refine gScr (i := i + 2) (v := xs (i + 2)) hx hb hX hbl hbA hS (by omega) hL9 rfl dL_law_1444 ?_
  refine lv_i2l (v := (xs (i + 2)).toInt64) hx hb dL_law_1445 (rfl) ?_
  refine lv_ldc2 (v := 4294967295) hx hb hown (hts (.constantLong RL 190 (4294967295)) (by decide +kernel)) dL_law_1446 ?_
  refine g_land (z := ((xs (i + 2)).toInt64) &&& 4294967295) hx hb dL_law_1449 (rfl) ?_
  refine g_lor (z := lN cu) hx hb dL_law_1450 (hac) ?_
  refine lv_aload_n hx hb dL_law_1451 rfl (lv_at hl 3 rfl) ?_
  refine kPreI (vx_runSW (As := [.ref (a 0), .long (lN cu), .ref oa]) (rest := []) ⟨hx, hb, hml, hown, hts⟩ (c_L_appendText_2 a v mo ki pr df co bi g9 lr bf tn ln nx ct hv v0 k0 v1 k1 oa of cu (hu) (hcs) (hln) (hlk) hfl (PP_l hP) ((pre_D hD).weaken (fun _ _ _ h => hLo _ h))) (vx_cwSW 3 hts gL_law_L_appendText rfl rfl rfl (by decide +kernel) ⟨(Nat.le_of_ble_eq_true rfl), (Nat.le_of_ble_eq_true rfl)⟩) (preSX hCX hS hLo) rfl rfl hl.1 rfl (lv_room (Nat.le_of_ble_eq_true rfl)) dL_law_1452 ⟨by show c0 + _ ≤ 601024; omega, by show s0 + _ ≤ 7293034; omega⟩) hP hD hS hA (fun _ => lw_fst) (fun r_3 u_1 H locs q_2 hP hD hS => ?_)
  have hP : PP G (lwW G a v mo ki pr df co bi g9 lr bf tn ln nx ct hv v0 k0 v1 k1 oa of mh m1 m2 m3 m4 m5 ss hi sl tx ne th kn ke le sp wr si on tw dn) H := hP
  have hD : va_D (lo G) (lwW G a v mo ki pr df co bi g9 lr bf tn ln nx ct hv v0 k0 v1 k1 oa of mh m1 m2 m3 m4 m5 ss hi sl tx ne th kn ke le sp wr si on tw dn) := hD
  refine topE (v' := nI (2)) (q_2) ?_
  refine lv_istore (lv' := [(5, .int (nI (2))), (0, .ref bq), (1, .ref (a 0)), (2, .ref mh), (3, .ref oa), (4, .int (nI (i)))]) hx hb dL_law_1455 hl (by decide) rfl (fun ls hl => ?_)
  refine lv_aload_n hx hb dL_law_1457 rfl (lv_at hl 3 rfl) ?_
  refine lv_aload_n hx hb dL_law_1458 rfl (lv_at hl 1 rfl) ?_
  refine lv_iload hx hb dL_law_1459 (lv_at hl 5 rfl) ?_
  refine lv_iconst (v := nI (1)) hx hb dL_law_1461 (by decide) ?_
  refine gAdd (z := nI (i + 1)) hx hb dL_law_1462 (nI_add _ _) ?_
  refine gScr (i := i + 1) (v := xs (i + 1)) hx hb hX hbl hbA hS (by omega) hL9 rfl dL_law_1463 ?_
  refine lv_i2l (v := (xs (i + 1)).toInt64) hx hb dL_law_1464 (rfl) ?_
  refine lv_bipush (v := nI (32)) hx hb dL_law_1465 (by decide) ?_
  refine lv_lshl (v := ((xs (i + 1)).toInt64) <<< ((nI (32)).toInt64 &&& 63)) hx hb dL_law_1467 (rfl) ?_
  refine lv_aload_n hx hb dL_law_1468 rfl (lv_at hl 1 rfl) ?_
  refine lv_iload hx hb dL_law_1469 (lv_at hl 5 rfl) ?_
  refine lv_iconst (v := nI (2)) hx hb dL_law_1471 (by decide) ?_
  refine gAdd (z := nI (i + 2)) hx hb dL_law_1472 (nI_add _ _) ?_
  refine gScr (i := i + 2) (v := xs (i + 2)) hx hb hX hbl hbA hS (by omega) hL9 rfl dL_law_1473 ?_
  refine lv_i2l (v := (xs (i + 2)).toInt64) hx hb dL_law_1474 (rfl) ?_
  refine lv_ldc2 (v := 4294967295) hx hb hown (hts (.constantLong RL 190 (4294967295)) (by decide +kernel)) dL_law_1475 ?_
  refine g_land (z := ((xs (i + 2)).toInt64) &&& 4294967295) hx hb dL_law_1478 (rfl) ?_
  refine g_lor (z := lN cu) hx hb dL_law_1479 (hac) ?_
  refine kSufI (va_runV (As := [.long (lN cu)]) (rest := []) ⟨hx, hb, hml, hown, hts⟩ (c_X9_appendText_2 mh m1 m2 m3 m4 m5 ss hi sl tx ne th kn ke le sp wr si on tw dn cu (hu) (hle) (hcs) (hlk') (PP_r hP) ((pre_D (va_D_swap hD)).weaken (fun _ _ _ h => hLo _ h))) (cwV 1 hts gL_law_X9_appendText rfl rfl rfl (by decide +kernel) ⟨(Nat.le_of_ble_eq_true rfl), (Nat.le_of_ble_eq_true rfl)⟩) (preV hC hS hLo (PP_r hP) (ci := 8) (q0 := 0) rfl rfl) rfl rfl hl.1 rfl (lv_room (Nat.le_of_ble_eq_true rfl)) dL_law_1480 ⟨by show c0 + _ ≤ 601024; omega, by show s0 + _ ≤ 7293034; omega⟩) hP hD hS hA (fun _ => rfl) (fun r_6 u_4 H locs q_5 hP hD hS => ?_)
  have hP : PP G (lwW G a v mo ki pr df co bi g9 lr bf tn ln nx ct hv v0 k0 v1 k1 oa of mh m1 m2 m3 m4 m5 ss hi sl tx ne (nI 2) kn ke le sp wr si on tw dn) H := hP
  have hD : va_D (lo G) (lwW G a v mo ki pr df co bi g9 lr bf tn ln nx ct hv v0 k0 v1 k1 oa of mh m1 m2 m3 m4 m5 ss hi sl tx ne (nI 2) kn ke le sp wr si on tw dn) := hD
  refine topE (v' := nI (0)) (q_5) ?_
  refine lv_istore (lv' := [(6, .int (nI (0))), (5, .int (nI (2))), (0, .ref bq), (1, .ref (a 0)), (2, .ref mh), (3, .ref oa), (4, .int (nI (i)))]) hx hb dL_law_1483 hl (by decide) rfl (fun ls hl => ?_)
  refine lv_aload_n hx hb dL_law_1485 rfl (lv_at hl 4 rfl) ?_
  refine kPi (va_runV (As := []) (rest := []) ⟨hx, hb, hml, hown, hts⟩ (c_X9_thrown mh m1 m2 m3 m4 m5 ss hi sl tx ne (nI (2)) kn ke le sp wr si on tw dn (PP_r hP)) (cwV 0 hts gL_law_X9_thrown rfl rfl rfl (by decide +kernel) ⟨(Nat.le_of_ble_eq_true rfl), (Nat.le_of_ble_eq_true rfl)⟩) (preV hC hS hLo (PP_r hP) (ci := 8) (q0 := 0) rfl rfl) rfl rfl hl.1 rfl (lv_room (Nat.le_of_ble_eq_true rfl)) dL_law_1486 ⟨by show c0 + _ ≤ 601024; omega, by show s0 + _ ≤ 7293034; omega⟩) hS (fun locs hS => ?_)
  refine lv_iload hx hb dL_law_1489 (lv_at hl 1 rfl) ?_
  refine lv_icmp_eq (tgt := 1496) hx hb dL_law_1491 (by decide) (fun c_7 => ?_) (fun c_7 => ?_)
  · have f_8 := c_7
    refine lv_iload hx hb dL_law_1496 (lv_at hl 1 rfl) ?_
    refine lv_if_ne (tgt := 1513) hx hb dL_law_1498 (by decide) (fun c_9 => ?_) (fun c_9 => ?_)
    · have f_10 : ¬ (2 : Int) = (0 : Int) := fun z => c_9 ((c_eq (nI_toInt (n := 2) (by omega)) rfl).mpr z)
      refine lv_goto (tgt := 1768) hx hb dL_law_1513 (by decide) ?_
      exact hk H locs ls hP hD hS (lv_sub hl [2, 3, 4, 5, 6] rfl)
    · have f_11 : (2 : Int) = (0 : Int) := (c_eq (nI_toInt (n := 2) (by omega)) rfl).mp c_9
      exfalso; omega
  · have f_12 := c_7
    exact absurd rfl f_12

set_option maxHeartbeats 4000000 in
set_option maxRecDepth 100000 in
theorem lw_27_ok {pg : Program} {l : Launch} {ev : Env} {s : State} {m : MethodId} {below : List Frame} {meth : Method} {c : Code} {Q : State → Prop} {G : GT} {bq L : Nat} {xs : Nat → Int32} (hLK : LK pg l s m meth c bq L xs G) (c0 s0 : Nat) (hroom : c0 + 1 ≤ 601024 ∧ s0 + 6 ≤ 7293034) (a : Nat → Nat) (v : SVT) (mo ki : Nat → Nat) (pr df : Nat → Int) (co : Int32) (bi : Nat) (g9 : Nat → Int32) (lr : Nat) (bf : Nat → Int) (tn : Nat → Nat) (ln nx ct : Nat) (hv : Nat → SVT) (v0 : SVT) (k0 : Nat) (v1 : SVT) (k1 : Nat) (oa : Nat) (of : Nat → Int64) (mh m1 m2 m3 m4 m5 : Nat) (ss hi sl : Nat → Int) (tx : Nat → Nat) (ne : Nat → Int) (th : Int32) (kn ke le : Nat) (sp wr si on tw dn : Int32) (i : Nat) (hi5 : i + 5 ≤ L) (heq : nI (le) = nI (ln)) {H : Heap} {locs : List Loc} {ls : Array Slot} (hP : PP G (lwW G a v mo ki pr df co bi g9 lr bf tn ln nx ct hv v0 k0 v1 k1 oa of mh m1 m2 m3 m4 m5 ss hi sl tx ne th kn ke le sp wr si on tw dn) H) (hD : va_D (lo G) (lwW G a v mo ki pr df co bi g9 lr bf tn ln nx ct hv v0 k0 v1 k1 oa of mh m1 m2 m3 m4 m5 ss hi sl tx ne th kn ke le sp wr si on tw dn)) (hS : va_S (lo G) s.heap H locs) (hl : lv_has ls 7 [(0, .ref bq), (1, .ref (a 0)), (2, .ref mh), (3, .ref oa), (4, .int (nI (i)))])
    (hk : ∀ (H : Heap) (locs : List Loc) (ls : Array Slot), PP G (lwW G a v mo ki pr df co bi g9 lr bf tn 0 nx ct hv v0 k0 v1 k1 oa of mh m1 m2 m3 m4 m5 ss hi sl tx ne (nI 0) kn ke 0 sp wr si on tw dn) H → va_D (lo G) (lwW G a v mo ki pr df co bi g9 lr bf tn 0 nx ct hv v0 k0 v1 k1 oa of mh m1 m2 m3 m4 m5 ss hi sl tx ne (nI 0) kn ke 0 sp wr si on tw dn) → va_S (lo G) s.heap H locs → lv_has ls 7 [(0, .ref bq), (1, .ref (a 0)), (2, .ref mh), (3, .ref oa), (4, .int (nI (i)))] → W pg l ev room_1 s m #[Value.ref bq] below meth c H locs (c0 + 0) (s0 + 0) Q (F0 m 1768 ls [])) :
    W pg l ev room_1 s m #[Value.ref bq] below meth c H locs c0 s0 Q (F0 m 1516 ls []) := by
  obtain ⟨hx, hb, hml, hown, hts, hX, hbl, hCX, hgB, hfl, hL9⟩ := hLK
  have hC := hCX.1
  have hLo : ∀ q, lo G q → lo G q := fun _ h => h
  have hA : ∀ q, s.heap.size ≤ q → lo G q := fun q h => by show gB G ≤ q; rw [hgB]; exact h
  have hbA : ¬ lo G bq := by show ¬ gB G ≤ bq; rw [hgB]; omega
  refine lv_aload_n hx hb dL_law_1516 rfl (lv_at hl 1 rfl) ?_
  simp only [lwW, lwM, xW_y3, List.append_assoc] at hP hD
  refine kPreI (va_runV (As := []) (rest := []) ⟨hx, hb, hml, hown, hts⟩ (c_X8_clearText_y a v mo ki pr df co bi g9 lr bf tn ln (PP_l hP) ((pre_D hD).weaken (fun _ _ _ h => hLo _ h))) (cwV 0 hts gL_law_X8_clearText rfl rfl rfl (by decide +kernel) ⟨(Nat.le_of_ble_eq_true rfl), (Nat.le_of_ble_eq_true rfl)⟩) (preV hC hS hLo hP (ci := 7) (q0 := 0) rfl rfl) rfl rfl hl.1 rfl (lv_room (Nat.le_of_ble_eq_true rfl)) dL_law_1517 ⟨by show c0 + _ ≤ 601024; omega, by show s0 + _ ≤ 7293034; omega⟩) hP hD hS hA (fun _ => rfl) (fun r_3 u_1 H locs q_2 hP hD hS => ?_)
  have hP : PP G (lwW G a v mo ki pr df co bi g9 lr bf tn 0 nx ct hv v0 k0 v1 k1 oa of mh m1 m2 m3 m4 m5 ss hi sl tx ne th kn ke le sp wr si on tw dn) H := by simp only [lwW, lwM, xW_y3, List.append_assoc]; exact hP
  have hD : va_D (lo G) (lwW G a v mo ki pr df co bi g9 lr bf tn 0 nx ct hv v0 k0 v1 k1 oa of mh m1 m2 m3 m4 m5 ss hi sl tx ne th kn ke le sp wr si on tw dn) := by simp only [lwW, lwM, xW_y3, List.append_assoc]; exact hD
  refine topE (v' := nI (ln)) (q_2) ?_
  refine lv_aload_n hx hb dL_law_1520 rfl (lv_at hl 2 rfl) ?_
  refine kSufI (va_runV (As := []) (rest := [.int (nI (ln))]) ⟨hx, hb, hml, hown, hts⟩ (c_X9_clearText mh m1 m2 m3 m4 m5 ss hi sl tx ne th kn ke le sp wr si on tw dn (PP_r hP) ((pre_D (va_D_swap hD)).weaken (fun _ _ _ h => hLo _ h))) (cwV 0 hts gL_law_X9_clearText rfl rfl rfl (by decide +kernel) ⟨(Nat.le_of_ble_eq_true rfl), (Nat.le_of_ble_eq_true rfl)⟩) (preV hC hS hLo (PP_r hP) (ci := 8) (q0 := 0) rfl rfl) rfl rfl hl.1 rfl (lv_room (Nat.le_of_ble_eq_true rfl)) dL_law_1521 ⟨by show c0 + _ ≤ 601024; omega, by show s0 + _ ≤ 7293034; omega⟩) hP hD hS hA (fun _ => rfl) (fun r_6 u_4 H locs q_5 hP hD hS => ?_)
  have hP : PP G (lwW G a v mo ki pr df co bi g9 lr bf tn 0 nx ct hv v0 k0 v1 k1 oa of mh m1 m2 m3 m4 m5 ss hi sl tx ne (nI 0) kn ke 0 sp wr si on tw dn) H := hP
  have hD : va_D (lo G) (lwW G a v mo ki pr df co bi g9 lr bf tn 0 nx ct hv v0 k0 v1 k1 oa of mh m1 m2 m3 m4 m5 ss hi sl tx ne (nI 0) kn ke 0 sp wr si on tw dn) := hD
  refine topE (v' := nI (ln)) (q_5.trans (heq)) ?_
  refine lv_icmp_eq (tgt := 1768) hx hb dL_law_1524 (by decide) (fun c_7 => ?_) (fun c_7 => ?_)
  · have f_8 := c_7
    exact hk H locs ls hP hD hS (lv_sub hl [0, 1, 2, 3, 4] rfl)
  · have f_9 := c_7
    exact absurd rfl f_9

set_option maxHeartbeats 4000000 in
set_option maxRecDepth 100000 in
theorem lw_28_ok {pg : Program} {l : Launch} {ev : Env} {s : State} {m : MethodId} {below : List Frame} {meth : Method} {c : Code} {Q : State → Prop} {G : GT} {bq L : Nat} {xs : Nat → Int32} (hLK : LK pg l s m meth c bq L xs G) (c0 s0 : Nat) (hroom : c0 + 1 ≤ 601024 ∧ s0 + 6 ≤ 7293034) (a : Nat → Nat) (v : SVT) (mo ki : Nat → Nat) (pr df : Nat → Int) (co : Int32) (bi : Nat) (g9 : Nat → Int32) (lr : Nat) (bf : Nat → Int) (tn : Nat → Nat) (ln nx ct : Nat) (hv : Nat → SVT) (v0 : SVT) (k0 : Nat) (v1 : SVT) (k1 : Nat) (oa : Nat) (of : Nat → Int64) (mh m1 m2 m3 m4 m5 : Nat) (ss hi sl : Nat → Int) (tx : Nat → Nat) (ne : Nat → Int) (th : Int32) (kn ke le : Nat) (sp wr si on tw dn : Int32) (i : Nat) (hi5 : i + 5 ≤ L) (heq : nI (le) = nI (ln)) {H : Heap} {locs : List Loc} {ls : Array Slot} (hP : PP G (lwW G a v mo ki pr df co bi g9 lr bf tn ln nx ct hv v0 k0 v1 k1 oa of mh m1 m2 m3 m4 m5 ss hi sl tx ne th kn ke le sp wr si on tw dn) H) (hD : va_D (lo G) (lwW G a v mo ki pr df co bi g9 lr bf tn ln nx ct hv v0 k0 v1 k1 oa of mh m1 m2 m3 m4 m5 ss hi sl tx ne th kn ke le sp wr si on tw dn)) (hS : va_S (lo G) s.heap H locs) (hl : lv_has ls 7 [(0, .ref bq), (1, .ref (a 0)), (2, .ref mh), (3, .ref oa), (4, .int (nI (i)))])
    (hk : ∀ (H : Heap) (locs : List Loc) (ls : Array Slot), PP G (lwW G a v mo ki pr df co bi g9 lr bf tn ln nx ct hv v0 k0 v1 k1 oa of mh m1 m2 m3 m4 m5 ss hi sl tx ne (nI 0) kn ke le sp wr si on tw dn) H → va_D (lo G) (lwW G a v mo ki pr df co bi g9 lr bf tn ln nx ct hv v0 k0 v1 k1 oa of mh m1 m2 m3 m4 m5 ss hi sl tx ne (nI 0) kn ke le sp wr si on tw dn) → va_S (lo G) s.heap H locs → lv_has ls 7 [(0, .ref bq), (1, .ref (a 0)), (2, .ref mh), (3, .ref oa), (4, .int (nI (i)))] → W pg l ev room_1 s m #[Value.ref bq] below meth c H locs (c0 + 0) (s0 + 0) Q (F0 m 1768 ls [])) :
    W pg l ev room_1 s m #[Value.ref bq] below meth c H locs c0 s0 Q (F0 m 1529 ls []) := by
  obtain ⟨hx, hb, hml, hown, hts, hX, hbl, hCX, hgB, hfl, hL9⟩ := hLK
  have hC := hCX.1
  have hLo : ∀ q, lo G q → lo G q := fun _ h => h
  have hA : ∀ q, s.heap.size ≤ q → lo G q := fun q h => by show gB G ≤ q; rw [hgB]; exact h
  have hbA : ¬ lo G bq := by show ¬ gB G ≤ bq; rw [hgB]; omega
  refine lv_aload_n hx hb dL_law_1529 rfl (lv_at hl 1 rfl) ?_
  refine kPi (va_runV (As := []) (rest := []) ⟨hx, hb, hml, hown, hts⟩ (c_X8_textLength a tn ln (xW_txt (PP_l (PP_l hP)))) (cwV 0 hts gL_law_X8_textLength rfl rfl rfl (by decide +kernel) ⟨(Nat.le_of_ble_eq_true rfl), (Nat.le_of_ble_eq_true rfl)⟩) (preV hC hS hLo hP (ci := 7) (q0 := 0) rfl rfl) rfl rfl hl.1 rfl (lv_room (Nat.le_of_ble_eq_true rfl)) dL_law_1530 ⟨by show c0 + _ ≤ 601024; omega, by show s0 + _ ≤ 7293034; omega⟩) hS (fun locs hS => ?_)
  refine lv_aload_n hx hb dL_law_1533 rfl (lv_at hl 2 rfl) ?_
  refine kSufI (va_runV (As := []) (rest := [.int (nI (ln))]) ⟨hx, hb, hml, hown, hts⟩ (c_X9_textLength mh m1 m2 m3 m4 m5 ss hi sl tx ne th kn ke le sp wr si on tw dn (PP_r hP) ((pre_D (va_D_swap hD)).weaken (fun _ _ _ h => hLo _ h))) (cwV 0 hts gL_law_X9_textLength rfl rfl rfl (by decide +kernel) ⟨(Nat.le_of_ble_eq_true rfl), (Nat.le_of_ble_eq_true rfl)⟩) (preV hC hS hLo (PP_r hP) (ci := 8) (q0 := 0) rfl rfl) rfl rfl hl.1 rfl (lv_room (Nat.le_of_ble_eq_true rfl)) dL_law_1534 ⟨by show c0 + _ ≤ 601024; omega, by show s0 + _ ≤ 7293034; omega⟩) hP hD hS hA (fun _ => rfl) (fun r_3 u_1 H locs q_2 hP hD hS => ?_)
  have hP : PP G (lwW G a v mo ki pr df co bi g9 lr bf tn ln nx ct hv v0 k0 v1 k1 oa of mh m1 m2 m3 m4 m5 ss hi sl tx ne (nI 0) kn ke le sp wr si on tw dn) H := hP
  have hD : va_D (lo G) (lwW G a v mo ki pr df co bi g9 lr bf tn ln nx ct hv v0 k0 v1 k1 oa of mh m1 m2 m3 m4 m5 ss hi sl tx ne (nI 0) kn ke le sp wr si on tw dn) := hD
  refine topE (v' := nI (ln)) (q_2.trans (heq)) ?_
  refine lv_icmp_eq (tgt := 1768) hx hb dL_law_1537 (by decide) (fun c_4 => ?_) (fun c_4 => ?_)
  · have f_5 := c_4
    exact hk H locs ls hP hD hS (lv_sub hl [0, 1, 2, 3, 4] rfl)
  · have f_6 := c_4
    exact absurd rfl f_6

set_option maxHeartbeats 4000000 in
set_option maxRecDepth 100000 in
theorem lw_29_ok {pg : Program} {l : Launch} {ev : Env} {s : State} {m : MethodId} {below : List Frame} {meth : Method} {c : Code} {Q : State → Prop} {G : GT} {bq L : Nat} {xs : Nat → Int32} (hLK : LK pg l s m meth c bq L xs G) (c0 s0 : Nat) (hroom : c0 + 1 ≤ 601024 ∧ s0 + 6 ≤ 7293034) (a : Nat → Nat) (v : SVT) (mo ki : Nat → Nat) (pr df : Nat → Int) (co : Int32) (bi : Nat) (g9 : Nat → Int32) (lr : Nat) (bf : Nat → Int) (tn : Nat → Nat) (ln nx ct : Nat) (hv : Nat → SVT) (v0 : SVT) (k0 : Nat) (v1 : SVT) (k1 : Nat) (oa : Nat) (of : Nat → Int64) (mh m1 m2 m3 m4 m5 : Nat) (ss hi sl : Nat → Int) (tx : Nat → Nat) (ne : Nat → Int) (th : Int32) (kn ke le : Nat) (sp wr si on tw dn : Int32) (i : Nat) (hi5 : i + 5 ≤ L) (htn : T128 tn) (hln : ln ≤ 80) (htx : T128 tx) (hle : le ≤ 80) (heq : iI (FE tx le) = iI (FE tn ln)) {H : Heap} {locs : List Loc} {ls : Array Slot} (hP : PP G (lwW G a v mo ki pr df co bi g9 lr bf tn ln nx ct hv v0 k0 v1 k1 oa of mh m1 m2 m3 m4 m5 ss hi sl tx ne th kn ke le sp wr si on tw dn) H) (hD : va_D (lo G) (lwW G a v mo ki pr df co bi g9 lr bf tn ln nx ct hv v0 k0 v1 k1 oa of mh m1 m2 m3 m4 m5 ss hi sl tx ne th kn ke le sp wr si on tw dn)) (hS : va_S (lo G) s.heap H locs) (hl : lv_has ls 7 [(0, .ref bq), (1, .ref (a 0)), (2, .ref mh), (3, .ref oa), (4, .int (nI (i)))])
    (hk : ∀ (u_1 : Nat × Nat × Int32 × Int32 × Int32) (H : Heap) (locs : List Loc) (ls : Array Slot), PP G (lwW G a v mo ki pr df co bi g9 lr bf tn ln nx ct hv v0 k0 v1 k1 oa of mh m1 m2 m3 m4 m5 ss hi sl tx ne (nI 0) kn ke le (nI u_1.2.1) (nI u_1.1) u_1.2.2.1 u_1.2.2.2.1 u_1.2.2.2.2 (nI 0)) H → va_D (lo G) (lwW G a v mo ki pr df co bi g9 lr bf tn ln nx ct hv v0 k0 v1 k1 oa of mh m1 m2 m3 m4 m5 ss hi sl tx ne (nI 0) kn ke le (nI u_1.2.1) (nI u_1.1) u_1.2.2.1 u_1.2.2.2.1 u_1.2.2.2.2 (nI 0)) → va_S (lo G) s.heap H locs → lv_has ls 7 [(0, .ref bq), (1, .ref (a 0)), (2, .ref mh), (3, .ref oa), (4, .int (nI (i)))] → W pg l ev room_1 s m #[Value.ref bq] below meth c H locs (c0 + 0) (s0 + 0) Q (F0 m 1768 ls [])) :
    W pg l ev room_1 s m #[Value.ref bq] below meth c H locs c0 s0 Q (F0 m 1542 ls []) := by
  obtain ⟨hx, hb, hml, hown, hts, hX, hbl, hCX, hgB, hfl, hL9⟩ := hLK
  have hC := hCX.1
  have hLo : ∀ q, lo G q → lo G q := fun _ h => h
  have hA : ∀ q, s.heap.size ≤ q → lo G q := fun q h => by show gB G ≤ q; rw [hgB]; exact h
  have hbA : ¬ lo G bq := by show ¬ gB G ≤ bq; rw [hgB]; omega
  refine lv_aload_n hx hb dL_law_1542 rfl (lv_at hl 1 rfl) ?_
  refine kPi (va_runV (As := []) (rest := []) ⟨hx, hb, hml, hown, hts⟩ (c_X8_textError a tn ln (htn) (hln) (xW_txt (PP_l (PP_l hP)))) (cwV 0 hts gL_law_X8_textError rfl rfl rfl (by decide +kernel) ⟨(Nat.le_of_ble_eq_true rfl), (Nat.le_of_ble_eq_true rfl)⟩) (preV hC hS hLo hP (ci := 7) (q0 := 0) rfl rfl) rfl rfl hl.1 rfl (lv_room (Nat.le_of_ble_eq_true rfl)) dL_law_1543 ⟨by show c0 + _ ≤ 601024; omega, by show s0 + _ ≤ 7293034; omega⟩) hS (fun locs hS => ?_)
  refine lv_aload_n hx hb dL_law_1546 rfl (lv_at hl 2 rfl) ?_
  refine kSufI (va_runV (As := []) (rest := [.int (iI (FE tn ln))]) ⟨hx, hb, hml, hown, hts⟩ (c_X9_textError mh m1 m2 m3 m4 m5 ss hi sl tx ne th kn ke le sp wr si on tw dn (htx) (hle) (PP_r hP) ((pre_D (va_D_swap hD)).weaken (fun _ _ _ h => hLo _ h))) (cwV 0 hts gL_law_X9_textError rfl rfl rfl (by decide +kernel) ⟨(Nat.le_of_ble_eq_true rfl), (Nat.le_of_ble_eq_true rfl)⟩) (preV hC hS hLo (PP_r hP) (ci := 8) (q0 := 0) rfl rfl) rfl rfl hl.1 rfl (lv_room (Nat.le_of_ble_eq_true rfl)) dL_law_1547 ⟨by show c0 + _ ≤ 601024; omega, by show s0 + _ ≤ 7293034; omega⟩) hP hD hS hA (fun _ => rfl) (fun r_3 u_1 H locs q_2 hP hD hS => ?_)
  have hP : PP G (lwW G a v mo ki pr df co bi g9 lr bf tn ln nx ct hv v0 k0 v1 k1 oa of mh m1 m2 m3 m4 m5 ss hi sl tx ne (nI 0) kn ke le (nI u_1.2.1) (nI u_1.1) u_1.2.2.1 u_1.2.2.2.1 u_1.2.2.2.2 (nI 0)) H := hP
  have hD : va_D (lo G) (lwW G a v mo ki pr df co bi g9 lr bf tn ln nx ct hv v0 k0 v1 k1 oa of mh m1 m2 m3 m4 m5 ss hi sl tx ne (nI 0) kn ke le (nI u_1.2.1) (nI u_1.1) u_1.2.2.1 u_1.2.2.2.1 u_1.2.2.2.2 (nI 0)) := hD
  refine topE (v' := iI (FE tn ln)) (q_2.trans (heq)) ?_
  refine lv_icmp_eq (tgt := 1768) hx hb dL_law_1550 (by decide) (fun c_4 => ?_) (fun c_4 => ?_)
  · have f_5 := c_4
    exact hk u_1 H locs ls hP hD hS (lv_sub hl [0, 1, 2, 3, 4] rfl)
  · have f_6 := c_4
    exact absurd rfl f_6

set_option maxHeartbeats 4000000 in
set_option maxRecDepth 100000 in
theorem lw_30_ok {pg : Program} {l : Launch} {ev : Env} {s : State} {m : MethodId} {below : List Frame} {meth : Method} {c : Code} {Q : State → Prop} {G : GT} {bq L : Nat} {xs : Nat → Int32} (hLK : LK pg l s m meth c bq L xs G) (c0 s0 : Nat) (hroom : c0 + 1 ≤ 601024 ∧ s0 + 6 ≤ 7293034) (a : Nat → Nat) (v : SVT) (mo ki : Nat → Nat) (pr df : Nat → Int) (co : Int32) (bi : Nat) (g9 : Nat → Int32) (lr : Nat) (bf : Nat → Int) (tn : Nat → Nat) (ln nx ct : Nat) (hv : Nat → SVT) (v0 : SVT) (k0 : Nat) (v1 : SVT) (k1 : Nat) (oa : Nat) (of : Nat → Int64) (mh m1 m2 m3 m4 m5 : Nat) (ss hi sl : Nat → Int) (tx : Nat → Nat) (ne : Nat → Int) (th : Int32) (kn ke le : Nat) (sp wr si on tw dn : Int32) (i : Nat) (k o : Nat → Nat) (hi5 : i + 5 ≤ L) (hnx : nx < 6) (hct : ct ≤ 6) (htn : T128 tn) (hln : ln ≤ 80) (hvo : v = vOf ss k o) (hM : MR ss) (hKO : KO ss k o) (hdf : D15 df) (hmo : M25 mo) (hok : FE tn ln = -1) (htx : T128 tx) (hle : le ≤ 80) (hkn : kn ≤ 6) (hok' : FE tx le = -1) (heq : nI ((rC tx le (le + 1) 0 ss 0).2) = nI ((rC tn ln (ln + 1) 0 ss 0).2)) {H : Heap} {locs : List Loc} {ls : Array Slot} (hP : PP G (lwW G a v mo ki pr df co bi g9 lr bf tn ln nx ct hv v0 k0 v1 k1 oa of mh m1 m2 m3 m4 m5 ss hi sl tx ne th kn ke le sp wr si on tw dn) H) (hD : va_D (lo G) (lwW G a v mo ki pr df co bi g9 lr bf tn ln nx ct hv v0 k0 v1 k1 oa of mh m1 m2 m3 m4 m5 ss hi sl tx ne th kn ke le sp wr si on tw dn)) (hS : va_S (lo G) s.heap H locs) (hl : lv_has ls 7 [(0, .ref bq), (1, .ref (a 0)), (2, .ref mh), (3, .ref oa), (4, .int (nI (i)))])
    (hk : ∀ (u_1 : SVT × (Nat → Nat) × (Nat → Nat) × (Nat → Nat) × (Nat → Nat) × (Nat → Int) × (Nat → Int) × Int32 × Nat × (Nat → Int)) (u_4 : (Nat → Int) × Nat × Int32 × Int32 × Int32) (H : Heap) (locs : List Loc) (ls : Array Slot), (u_1.1 = vOf (rC tn ln (ln + 1) 0 ss 0).1 u_1.2.1 u_1.2.2.1 ∧ KO (rC tn ln (ln + 1) 0 ss 0).1 u_1.2.1 u_1.2.2.1 ∧ M25 u_1.2.2.2.1 ∧ D15 u_1.2.2.2.2.2.2.1) → PP G (lwW G a u_1.1 u_1.2.2.2.1 u_1.2.2.2.2.1 u_1.2.2.2.2.2.1 u_1.2.2.2.2.2.2.1 u_1.2.2.2.2.2.2.2.1 u_1.2.2.2.2.2.2.2.2.1 g9 lr u_1.2.2.2.2.2.2.2.2.2 tn 0 ((nx + 1) % 6) (min (ct + 1) 6) (va_up hv nx v) v0 k0 v1 k1 oa (vp_updL of 0 ((nI ((rC tn ln (ln + 1) 0 ss 0).2)).toInt64)) mh m1 m2 m3 m4 m5 ((rC tx le (le + 1) 0 ss 0).1) (recH hi ss kn) sl tx u_4.1 (nI 0) (min (kn + 1) 6) ke 0 (nI u_4.2.1) (nI 0) u_4.2.2.1 u_4.2.2.2.1 u_4.2.2.2.2 (nI ((rC tx le (le + 1) 0 ss 0).2))) H → va_D (lo G) (lwW G a u_1.1 u_1.2.2.2.1 u_1.2.2.2.2.1 u_1.2.2.2.2.2.1 u_1.2.2.2.2.2.2.1 u_1.2.2.2.2.2.2.2.1 u_1.2.2.2.2.2.2.2.2.1 g9 lr u_1.2.2.2.2.2.2.2.2.2 tn 0 ((nx + 1) % 6) (min (ct + 1) 6) (va_up hv nx v) v0 k0 v1 k1 oa (vp_updL of 0 ((nI ((rC tn ln (ln + 1) 0 ss 0).2)).toInt64)) mh m1 m2 m3 m4 m5 ((rC tx le (le + 1) 0 ss 0).1) (recH hi ss kn) sl tx u_4.1 (nI 0) (min (kn + 1) 6) ke 0 (nI u_4.2.1) (nI 0) u_4.2.2.1 u_4.2.2.2.1 u_4.2.2.2.2 (nI ((rC tx le (le + 1) 0 ss 0).2))) → va_S (lo G) s.heap H locs → lv_has ls 7 [(0, .ref bq), (1, .ref (a 0)), (2, .ref mh), (3, .ref oa), (4, .int (nI (i)))] → W pg l ev room_1 s m #[Value.ref bq] below meth c H locs (c0 + 0) (s0 + 0) Q (F0 m 1768 ls [])) :
    W pg l ev room_1 s m #[Value.ref bq] below meth c H locs c0 s0 Q (F0 m 1555 ls []) := by
  obtain ⟨hx, hb, hml, hown, hts, hX, hbl, hCX, hgB, hfl, hL9⟩ := hLK
  have hC := hCX.1
  have hLo : ∀ q, lo G q → lo G q := fun _ h => h
  have hA : ∀ q, s.heap.size ≤ q → lo G q := fun q h => by show gB G ≤ q; rw [hgB]; exact h
  have hbA : ¬ lo G bq := by show ¬ gB G ≤ bq; rw [hgB]; omega
  refine lv_aload_n hx hb dL_law_1555 rfl (lv_at hl 1 rfl) ?_
  refine lv_aload_n hx hb dL_law_1556 rfl (lv_at hl 3 rfl) ?_
  refine kPreI (vx_runSW (As := [.ref (a 0), .ref oa]) (rest := []) ⟨hx, hb, hml, hown, hts⟩ (c_L_runText a v mo ki pr df co bi g9 lr bf tn ln nx ct hv v0 k0 v1 k1 oa of ss k o (hnx) (hct) (htn) (hln) (hvo) (hM) (hKO) (hdf) (hmo) (hok) (PP_l hP) ((pre_D hD).weaken (fun _ _ _ h => hLo _ h))) (vx_cwSW 2 hts gL_law_L_runText rfl rfl rfl (by decide +kernel) ⟨(Nat.le_of_ble_eq_true rfl), (Nat.le_of_ble_eq_true rfl)⟩) (preS hC hS hLo) rfl rfl hl.1 rfl (lv_room (Nat.le_of_ble_eq_true rfl)) dL_law_1557 ⟨by show c0 + _ ≤ 601024; omega, by show s0 + _ ≤ 7293034; omega⟩) hP hD hS hA (fun _ => lw_fst) (fun r_3 u_1 H locs q_2 hP hD hS => ?_)
  have hP : PP G (lwW G a u_1.1 u_1.2.2.2.1 u_1.2.2.2.2.1 u_1.2.2.2.2.2.1 u_1.2.2.2.2.2.2.1 u_1.2.2.2.2.2.2.2.1 u_1.2.2.2.2.2.2.2.2.1 g9 lr u_1.2.2.2.2.2.2.2.2.2 tn 0 ((nx + 1) % 6) (min (ct + 1) 6) (va_up hv nx v) v0 k0 v1 k1 oa (vp_updL of 0 ((nI ((rC tn ln (ln + 1) 0 ss 0).2)).toInt64)) mh m1 m2 m3 m4 m5 ss hi sl tx ne th kn ke le sp wr si on tw dn) H := hP
  have hD : va_D (lo G) (lwW G a u_1.1 u_1.2.2.2.1 u_1.2.2.2.2.1 u_1.2.2.2.2.2.1 u_1.2.2.2.2.2.2.1 u_1.2.2.2.2.2.2.2.1 u_1.2.2.2.2.2.2.2.2.1 g9 lr u_1.2.2.2.2.2.2.2.2.2 tn 0 ((nx + 1) % 6) (min (ct + 1) 6) (va_up hv nx v) v0 k0 v1 k1 oa (vp_updL of 0 ((nI ((rC tn ln (ln + 1) 0 ss 0).2)).toInt64)) mh m1 m2 m3 m4 m5 ss hi sl tx ne th kn ke le sp wr si on tw dn) := hD
  refine topE (v' := nI (0)) (q_2.2.2.2.2) ?_
  refine lv_istore (lv' := [(5, .int (nI (0))), (0, .ref bq), (1, .ref (a 0)), (2, .ref mh), (3, .ref oa), (4, .int (nI (i)))]) hx hb dL_law_1560 hl (by decide) rfl (fun ls hl => ?_)
  refine lv_aload_n hx hb dL_law_1562 rfl (lv_at hl 3 rfl) ?_
  refine kSufI (va_runV (As := []) (rest := []) ⟨hx, hb, hml, hown, hts⟩ (c_X9_runText mh m1 m2 m3 m4 m5 ss hi sl tx ne th kn ke le sp wr si on tw dn (htx) (hle) (hM) (hkn) (hok') (PP_r hP) ((pre_D (va_D_swap hD)).weaken (fun _ _ _ h => hLo _ h))) (cwV 0 hts gL_law_X9_runText rfl rfl rfl (by decide +kernel) ⟨(Nat.le_of_ble_eq_true rfl), (Nat.le_of_ble_eq_true rfl)⟩) (preV hC hS hLo (PP_r hP) (ci := 8) (q0 := 0) rfl rfl) rfl rfl hl.1 rfl (lv_room (Nat.le_of_ble_eq_true rfl)) dL_law_1563 ⟨by show c0 + _ ≤ 601024; omega, by show s0 + _ ≤ 7293034; omega⟩) hP hD hS hA (fun _ => rfl) (fun r_6 u_4 H locs q_5 hP hD hS => ?_)
  have hP : PP G (lwW G a u_1.1 u_1.2.2.2.1 u_1.2.2.2.2.1 u_1.2.2.2.2.2.1 u_1.2.2.2.2.2.2.1 u_1.2.2.2.2.2.2.2.1 u_1.2.2.2.2.2.2.2.2.1 g9 lr u_1.2.2.2.2.2.2.2.2.2 tn 0 ((nx + 1) % 6) (min (ct + 1) 6) (va_up hv nx v) v0 k0 v1 k1 oa (vp_updL of 0 ((nI ((rC tn ln (ln + 1) 0 ss 0).2)).toInt64)) mh m1 m2 m3 m4 m5 ((rC tx le (le + 1) 0 ss 0).1) (recH hi ss kn) sl tx u_4.1 (nI 0) (min (kn + 1) 6) ke 0 (nI u_4.2.1) (nI 0) u_4.2.2.1 u_4.2.2.2.1 u_4.2.2.2.2 (nI ((rC tx le (le + 1) 0 ss 0).2))) H := hP
  have hD : va_D (lo G) (lwW G a u_1.1 u_1.2.2.2.1 u_1.2.2.2.2.1 u_1.2.2.2.2.2.1 u_1.2.2.2.2.2.2.1 u_1.2.2.2.2.2.2.2.1 u_1.2.2.2.2.2.2.2.2.1 g9 lr u_1.2.2.2.2.2.2.2.2.2 tn 0 ((nx + 1) % 6) (min (ct + 1) 6) (va_up hv nx v) v0 k0 v1 k1 oa (vp_updL of 0 ((nI ((rC tn ln (ln + 1) 0 ss 0).2)).toInt64)) mh m1 m2 m3 m4 m5 ((rC tx le (le + 1) 0 ss 0).1) (recH hi ss kn) sl tx u_4.1 (nI 0) (min (kn + 1) 6) ke 0 (nI u_4.2.1) (nI 0) u_4.2.2.1 u_4.2.2.2.1 u_4.2.2.2.2 (nI ((rC tx le (le + 1) 0 ss 0).2))) := hD
  refine topE (v' := nI ((rC tn ln (ln + 1) 0 ss 0).2)) (q_5.trans (heq)) ?_
  refine lv_istore (lv' := [(6, .int (nI ((rC tn ln (ln + 1) 0 ss 0).2))), (5, .int (nI (0))), (0, .ref bq), (1, .ref (a 0)), (2, .ref mh), (3, .ref oa), (4, .int (nI (i)))]) hx hb dL_law_1566 hl (by decide) rfl (fun ls hl => ?_)
  refine lv_aload_n hx hb dL_law_1568 rfl (lv_at hl 4 rfl) ?_
  refine kPi (va_runV (As := []) (rest := []) ⟨hx, hb, hml, hown, hts⟩ (c_X9_thrown mh m1 m2 m3 m4 m5 ((rC tx le (le + 1) 0 ss 0).1) (recH hi ss kn) sl tx u_4.1 (nI (0)) (min (kn + 1) 6) ke 0 (nI (u_4.2.1)) (nI (0)) u_4.2.2.1 u_4.2.2.2.1 u_4.2.2.2.2 (nI ((rC tx le (le + 1) 0 ss 0).2)) (PP_r hP)) (cwV 0 hts gL_law_X9_thrown rfl rfl rfl (by decide +kernel) ⟨(Nat.le_of_ble_eq_true rfl), (Nat.le_of_ble_eq_true rfl)⟩) (preV hC hS hLo (PP_r hP) (ci := 8) (q0 := 0) rfl rfl) rfl rfl hl.1 rfl (lv_room (Nat.le_of_ble_eq_true rfl)) dL_law_1569 ⟨by show c0 + _ ≤ 601024; omega, by show s0 + _ ≤ 7293034; omega⟩) hS (fun locs hS => ?_)
  refine lv_iload hx hb dL_law_1572 (lv_at hl 1 rfl) ?_
  refine lv_icmp_eq (tgt := 1579) hx hb dL_law_1574 (by decide) (fun c_7 => ?_) (fun c_7 => ?_)
  · have f_8 := c_7
    refine lv_iload hx hb dL_law_1579 (lv_at hl 1 rfl) ?_
    refine lv_if_ne (tgt := 1596) hx hb dL_law_1581 (by decide) (fun c_9 => ?_) (fun c_9 => ?_)
    · have f_10 : ¬ (0 : Int) = (0 : Int) := fun z => c_9 ((c_eq (nI_toInt (n := 0) (by omega)) rfl).mpr z)
      exfalso; omega
    · have f_11 : (0 : Int) = (0 : Int) := (c_eq (nI_toInt (n := 0) (by omega)) rfl).mp c_9
      refine lv_aload_n hx hb dL_law_1584 rfl (lv_at hl 5 rfl) ?_
      refine lv_iconst (v := nI (0)) hx hb dL_law_1585 (by decide) ?_
      refine gLald (j := 0) hx hb hC.K (PP_r (PP_l hP)) 0 4 rfl rfl rfl (by decide) (by decide) dL_law_1586 ?_
      refine W.eq (g2 := F0 m 1587 ls [.long ((nI ((rC tn ln (ln + 1) 0 ss 0).2)).toInt64)]) rfl ?_
      refine lv_iload hx hb dL_law_1587 (lv_at hl 0 rfl) ?_
      refine lv_i2l (v := (nI ((rC tn ln (ln + 1) 0 ss 0).2)).toInt64) hx hb dL_law_1589 (rfl) ?_
      refine W.lcmp hx hb dL_law_1590 ?_
      refine topE (v' := nI (0)) (lg_self _) ?_
      refine lv_if_eq (tgt := 1596) hx hb dL_law_1591 (by decide) (fun c_12 => ?_) (fun c_12 => ?_)
      · have f_13 : (0 : Int) = (0 : Int) := (c_eq (nI_toInt (n := 0) (by omega)) rfl).mp c_12
        refine lv_goto (tgt := 1768) hx hb dL_law_1596 (by decide) ?_
        exact hk u_1 u_4 H locs ls ⟨q_2.1, q_2.2.1, q_2.2.2.1, q_2.2.2.2.1⟩ hP hD hS (lv_sub hl [2, 3, 4, 5, 6] rfl)
      · have f_14 : ¬ (0 : Int) = (0 : Int) := fun z => c_12 ((c_eq (nI_toInt (n := 0) (by omega)) rfl).mpr z)
        exfalso; omega
  · have f_15 := c_7
    exact absurd rfl f_15

set_option maxHeartbeats 4000000 in
set_option maxRecDepth 100000 in
theorem lw_30_x1 {pg : Program} {l : Launch} {ev : Env} {s : State} {m : MethodId} {below : List Frame} {meth : Method} {c : Code} {Q : State → Prop} {G : GT} {bq L : Nat} {xs : Nat → Int32} (hLK : LK pg l s m meth c bq L xs G) (c0 s0 : Nat) (hroom : c0 + 1 ≤ 601024 ∧ s0 + 6 ≤ 7293034) (a : Nat → Nat) (v : SVT) (mo ki : Nat → Nat) (pr df : Nat → Int) (co : Int32) (bi : Nat) (g9 : Nat → Int32) (lr : Nat) (bf : Nat → Int) (tn : Nat → Nat) (ln nx ct : Nat) (hv : Nat → SVT) (v0 : SVT) (k0 : Nat) (v1 : SVT) (k1 : Nat) (oa : Nat) (of : Nat → Int64) (mh m1 m2 m3 m4 m5 : Nat) (ss hi sl : Nat → Int) (tx : Nat → Nat) (ne : Nat → Int) (th : Int32) (kn ke le : Nat) (sp wr si on tw dn : Int32) (i : Nat) (hi5 : i + 5 ≤ L) (htn : T128 tn) (hln : ln ≤ 80) (hfe : ¬ FE tn ln = -1) (htx : T128 tx) (hle : le ≤ 80) (hok : ¬ FE tx le = -1) {H : Heap} {locs : List Loc} {ls : Array Slot} (hP : PP G (lwW G a v mo ki pr df co bi g9 lr bf tn ln nx ct hv v0 k0 v1 k1 oa of mh m1 m2 m3 m4 m5 ss hi sl tx ne th kn ke le sp wr si on tw dn) H) (hD : va_D (lo G) (lwW G a v mo ki pr df co bi g9 lr bf tn ln nx ct hv v0 k0 v1 k1 oa of mh m1 m2 m3 m4 m5 ss hi sl tx ne th kn ke le sp wr si on tw dn)) (hS : va_S (lo G) s.heap H locs) (hl : lv_has ls 7 [(0, .ref bq), (1, .ref (a 0)), (2, .ref mh), (3, .ref oa), (4, .int (nI (i)))])
    (hk : ∀ (u_4 : Nat × Nat × Int32 × Int32 × Int32) (H : Heap) (locs : List Loc) (ls : Array Slot), PP G (lwW G a v mo ki pr df co bi g9 lr bf tn ln nx ct hv v0 k0 v1 k1 oa of mh m1 m2 m3 m4 m5 ss hi sl tx ne (nI 1) kn ke le (nI u_4.2.1) (nI u_4.1) u_4.2.2.1 u_4.2.2.2.1 u_4.2.2.2.2 (nI 0)) H → va_D (lo G) (lwW G a v mo ki pr df co bi g9 lr bf tn ln nx ct hv v0 k0 v1 k1 oa of mh m1 m2 m3 m4 m5 ss hi sl tx ne (nI 1) kn ke le (nI u_4.2.1) (nI u_4.1) u_4.2.2.1 u_4.2.2.2.1 u_4.2.2.2.2 (nI 0)) → va_S (lo G) s.heap H locs → lv_has ls 7 [(0, .ref bq), (1, .ref (a 0)), (2, .ref mh), (3, .ref oa), (4, .int (nI (i)))] → W pg l ev room_1 s m #[Value.ref bq] below meth c H locs (c0 + 1) (s0 + 6) Q (F0 m 1768 ls [])) :
    W pg l ev room_1 s m #[Value.ref bq] below meth c H locs c0 s0 Q (F0 m 1555 ls []) := by
  obtain ⟨hx, hb, hml, hown, hts, hX, hbl, hCX, hgB, hfl, hL9⟩ := hLK
  have hC := hCX.1
  have hLo : ∀ q, lo G q → lo G q := fun _ h => h
  have hA : ∀ q, s.heap.size ≤ q → lo G q := fun q h => by show gB G ≤ q; rw [hgB]; exact h
  have hbA : ¬ lo G bq := by show ¬ gB G ≤ bq; rw [hgB]; omega
  refine lv_aload_n hx hb dL_law_1555 rfl (lv_at hl 1 rfl) ?_
  refine lv_aload_n hx hb dL_law_1556 rfl (lv_at hl 3 rfl) ?_
  refine kPreI (vx_runSW (As := [.ref (a 0), .ref oa]) (rest := []) ⟨hx, hb, hml, hown, hts⟩ (c_L_runText_1 a v mo ki pr df co bi g9 lr bf tn ln nx ct hv v0 k0 v1 k1 oa of (htn) (hln) (hfe) hfl (PP_l hP) ((pre_D hD).weaken (fun _ _ _ h => hLo _ h))) (vx_cwSW 2 hts gL_law_L_runText rfl rfl rfl (by decide +kernel) ⟨(Nat.le_of_ble_eq_true rfl), (Nat.le_of_ble_eq_true rfl)⟩) (preSX hCX hS hLo) rfl rfl hl.1 rfl (lv_room (Nat.le_of_ble_eq_true rfl)) dL_law_1557 ⟨by show c0 + _ ≤ 601024; omega, by show s0 + _ ≤ 7293034; omega⟩) hP hD hS hA (fun _ => lw_fst) (fun r_3 u_1 H locs q_2 hP hD hS => ?_)
  have hP : PP G (lwW G a v mo ki pr df co bi g9 lr bf tn ln nx ct hv v0 k0 v1 k1 oa of mh m1 m2 m3 m4 m5 ss hi sl tx ne th kn ke le sp wr si on tw dn) H := hP
  have hD : va_D (lo G) (lwW G a v mo ki pr df co bi g9 lr bf tn ln nx ct hv v0 k0 v1 k1 oa of mh m1 m2 m3 m4 m5 ss hi sl tx ne th kn ke le sp wr si on tw dn) := hD
  refine topE (v' := nI (1)) (q_2) ?_
  refine lv_istore (lv' := [(5, .int (nI (1))), (0, .ref bq), (1, .ref (a 0)), (2, .ref mh), (3, .ref oa), (4, .int (nI (i)))]) hx hb dL_law_1560 hl (by decide) rfl (fun ls hl => ?_)
  refine lv_aload_n hx hb dL_law_1562 rfl (lv_at hl 3 rfl) ?_
  refine kSufI (va_runV (As := []) (rest := []) ⟨hx, hb, hml, hown, hts⟩ (c_X9_runText_1 mh m1 m2 m3 m4 m5 ss hi sl tx ne th kn ke le sp wr si on tw dn (htx) (hle) (hok) (PP_r hP) ((pre_D (va_D_swap hD)).weaken (fun _ _ _ h => hLo _ h))) (cwV 0 hts gL_law_X9_runText rfl rfl rfl (by decide +kernel) ⟨(Nat.le_of_ble_eq_true rfl), (Nat.le_of_ble_eq_true rfl)⟩) (preV hC hS hLo (PP_r hP) (ci := 8) (q0 := 0) rfl rfl) rfl rfl hl.1 rfl (lv_room (Nat.le_of_ble_eq_true rfl)) dL_law_1563 ⟨by show c0 + _ ≤ 601024; omega, by show s0 + _ ≤ 7293034; omega⟩) hP hD hS hA (fun _ => rfl) (fun r_6 u_4 H locs q_5 hP hD hS => ?_)
  have hP : PP G (lwW G a v mo ki pr df co bi g9 lr bf tn ln nx ct hv v0 k0 v1 k1 oa of mh m1 m2 m3 m4 m5 ss hi sl tx ne (nI 1) kn ke le (nI u_4.2.1) (nI u_4.1) u_4.2.2.1 u_4.2.2.2.1 u_4.2.2.2.2 (nI 0)) H := hP
  have hD : va_D (lo G) (lwW G a v mo ki pr df co bi g9 lr bf tn ln nx ct hv v0 k0 v1 k1 oa of mh m1 m2 m3 m4 m5 ss hi sl tx ne (nI 1) kn ke le (nI u_4.2.1) (nI u_4.1) u_4.2.2.1 u_4.2.2.2.1 u_4.2.2.2.2 (nI 0)) := hD
  refine topE (v' := nI (0)) (q_5) ?_
  refine lv_istore (lv' := [(6, .int (nI (0))), (5, .int (nI (1))), (0, .ref bq), (1, .ref (a 0)), (2, .ref mh), (3, .ref oa), (4, .int (nI (i)))]) hx hb dL_law_1566 hl (by decide) rfl (fun ls hl => ?_)
  refine lv_aload_n hx hb dL_law_1568 rfl (lv_at hl 4 rfl) ?_
  refine kPi (va_runV (As := []) (rest := []) ⟨hx, hb, hml, hown, hts⟩ (c_X9_thrown mh m1 m2 m3 m4 m5 ss hi sl tx ne (nI (1)) kn ke le (nI (u_4.2.1)) (nI (u_4.1)) u_4.2.2.1 u_4.2.2.2.1 u_4.2.2.2.2 (nI (0)) (PP_r hP)) (cwV 0 hts gL_law_X9_thrown rfl rfl rfl (by decide +kernel) ⟨(Nat.le_of_ble_eq_true rfl), (Nat.le_of_ble_eq_true rfl)⟩) (preV hC hS hLo (PP_r hP) (ci := 8) (q0 := 0) rfl rfl) rfl rfl hl.1 rfl (lv_room (Nat.le_of_ble_eq_true rfl)) dL_law_1569 ⟨by show c0 + _ ≤ 601024; omega, by show s0 + _ ≤ 7293034; omega⟩) hS (fun locs hS => ?_)
  refine lv_iload hx hb dL_law_1572 (lv_at hl 1 rfl) ?_
  refine lv_icmp_eq (tgt := 1579) hx hb dL_law_1574 (by decide) (fun c_7 => ?_) (fun c_7 => ?_)
  · have f_8 := c_7
    refine lv_iload hx hb dL_law_1579 (lv_at hl 1 rfl) ?_
    refine lv_if_ne (tgt := 1596) hx hb dL_law_1581 (by decide) (fun c_9 => ?_) (fun c_9 => ?_)
    · have f_10 : ¬ (1 : Int) = (0 : Int) := fun z => c_9 ((c_eq (nI_toInt (n := 1) (by omega)) rfl).mpr z)
      refine lv_goto (tgt := 1768) hx hb dL_law_1596 (by decide) ?_
      exact hk u_4 H locs ls hP hD hS (lv_sub hl [2, 3, 4, 5, 6] rfl)
    · have f_11 : (1 : Int) = (0 : Int) := (c_eq (nI_toInt (n := 1) (by omega)) rfl).mp c_9
      exfalso; omega
  · have f_12 := c_7
    exact absurd rfl f_12

set_option maxHeartbeats 4000000 in
set_option maxRecDepth 100000 in
theorem lw_31_ok {pg : Program} {l : Launch} {ev : Env} {s : State} {m : MethodId} {below : List Frame} {meth : Method} {c : Code} {Q : State → Prop} {G : GT} {bq L : Nat} {xs : Nat → Int32} (hLK : LK pg l s m meth c bq L xs G) (c0 s0 : Nat) (hroom : c0 + 1 ≤ 601024 ∧ s0 + 6 ≤ 7293034) (a : Nat → Nat) (v : SVT) (mo ki : Nat → Nat) (pr df : Nat → Int) (co : Int32) (bi : Nat) (g9 : Nat → Int32) (lr : Nat) (bf : Nat → Int) (tn : Nat → Nat) (ln nx ct : Nat) (hv : Nat → SVT) (v0 : SVT) (k0 : Nat) (v1 : SVT) (k1 : Nat) (oa : Nat) (of : Nat → Int64) (mh m1 m2 m3 m4 m5 : Nat) (ss hi sl : Nat → Int) (tx : Nat → Nat) (ne : Nat → Int) (th : Int32) (kn ke le : Nat) (sp wr si on tw dn : Int32) (i : Nat) (hi5 : i + 5 ≤ L) (hnx : nx < 6) (hct : 1 ≤ ct ∧ ct ≤ 6) (hkn : 1 ≤ kn ∧ kn ≤ 6) (heq : nI (kn - 1) = nI (ct - 1)) {H : Heap} {locs : List Loc} {ls : Array Slot} (hP : PP G (lwW G a v mo ki pr df co bi g9 lr bf tn ln nx ct hv v0 k0 v1 k1 oa of mh m1 m2 m3 m4 m5 ss hi sl tx ne th kn ke le sp wr si on tw dn) H) (hD : va_D (lo G) (lwW G a v mo ki pr df co bi g9 lr bf tn ln nx ct hv v0 k0 v1 k1 oa of mh m1 m2 m3 m4 m5 ss hi sl tx ne th kn ke le sp wr si on tw dn)) (hS : va_S (lo G) s.heap H locs) (hl : lv_has ls 7 [(0, .ref bq), (1, .ref (a 0)), (2, .ref mh), (3, .ref oa), (4, .int (nI (i)))])
    (hk : ∀ (H : Heap) (locs : List Loc) (ls : Array Slot), PP G (lwW G a (hv ((nx + 6 - 1) % 6)) mo ki pr df co bi g9 lr bf tn ln ((nx + 6 - 1) % 6) (ct - 1) hv v0 k0 v1 k1 oa (vp_updL of 0 ((nI (ct - 1)).toInt64)) mh m1 m2 m3 m4 m5 (cpS ss hi (205 * (kn - 1)) 205) hi sl tx ne (nI 0) (kn - 1) ke le sp wr si on tw dn) H → va_D (lo G) (lwW G a (hv ((nx + 6 - 1) % 6)) mo ki pr df co bi g9 lr bf tn ln ((nx + 6 - 1) % 6) (ct - 1) hv v0 k0 v1 k1 oa (vp_updL of 0 ((nI (ct - 1)).toInt64)) mh m1 m2 m3 m4 m5 (cpS ss hi (205 * (kn - 1)) 205) hi sl tx ne (nI 0) (kn - 1) ke le sp wr si on tw dn) → va_S (lo G) s.heap H locs → lv_has ls 7 [(0, .ref bq), (1, .ref (a 0)), (2, .ref mh), (3, .ref oa), (4, .int (nI (i)))] → W pg l ev room_1 s m #[Value.ref bq] below meth c H locs (c0 + 0) (s0 + 0) Q (F0 m 1768 ls [])) :
    W pg l ev room_1 s m #[Value.ref bq] below meth c H locs c0 s0 Q (F0 m 1599 ls []) := by
  obtain ⟨hx, hb, hml, hown, hts, hX, hbl, hCX, hgB, hfl, hL9⟩ := hLK
  have hC := hCX.1
  have hLo : ∀ q, lo G q → lo G q := fun _ h => h
  have hA : ∀ q, s.heap.size ≤ q → lo G q := fun q h => by show gB G ≤ q; rw [hgB]; exact h
  have hbA : ¬ lo G bq := by show ¬ gB G ≤ bq; rw [hgB]; omega
  refine lv_aload_n hx hb dL_law_1599 rfl (lv_at hl 1 rfl) ?_
  refine lv_aload_n hx hb dL_law_1600 rfl (lv_at hl 3 rfl) ?_
  refine kPreI (vx_runSW (As := [.ref (a 0), .ref oa]) (rest := []) ⟨hx, hb, hml, hown, hts⟩ (c_L_undo a v mo ki pr df co bi g9 lr bf tn ln nx ct hv v0 k0 v1 k1 oa of (hnx) (hct) (PP_l hP) ((pre_D hD).weaken (fun _ _ _ h => hLo _ h))) (vx_cwSW 2 hts gL_law_L_undo rfl rfl rfl (by decide +kernel) ⟨(Nat.le_of_ble_eq_true rfl), (Nat.le_of_ble_eq_true rfl)⟩) (preS hC hS hLo) rfl rfl hl.1 rfl (lv_room (Nat.le_of_ble_eq_true rfl)) dL_law_1601 ⟨by show c0 + _ ≤ 601024; omega, by show s0 + _ ≤ 7293034; omega⟩) hP hD hS hA (fun _ => lw_fst) (fun r_3 u_1 H locs q_2 hP hD hS => ?_)
  have hP : PP G (lwW G a (hv ((nx + 6 - 1) % 6)) mo ki pr df co bi g9 lr bf tn ln ((nx + 6 - 1) % 6) (ct - 1) hv v0 k0 v1 k1 oa (vp_updL of 0 ((nI (ct - 1)).toInt64)) mh m1 m2 m3 m4 m5 ss hi sl tx ne th kn ke le sp wr si on tw dn) H := hP
  have hD : va_D (lo G) (lwW G a (hv ((nx + 6 - 1) % 6)) mo ki pr df co bi g9 lr bf tn ln ((nx + 6 - 1) % 6) (ct - 1) hv v0 k0 v1 k1 oa (vp_updL of 0 ((nI (ct - 1)).toInt64)) mh m1 m2 m3 m4 m5 ss hi sl tx ne th kn ke le sp wr si on tw dn) := hD
  refine topE (v' := nI (0)) (q_2) ?_
  refine lv_istore (lv' := [(5, .int (nI (0))), (0, .ref bq), (1, .ref (a 0)), (2, .ref mh), (3, .ref oa), (4, .int (nI (i)))]) hx hb dL_law_1604 hl (by decide) rfl (fun ls hl => ?_)
  refine lv_aload_n hx hb dL_law_1606 rfl (lv_at hl 3 rfl) ?_
  refine kSufI (va_runV (As := []) (rest := []) ⟨hx, hb, hml, hown, hts⟩ (c_X9_undo mh m1 m2 m3 m4 m5 ss hi sl tx ne th kn ke le sp wr si on tw dn (hkn) (PP_r hP) ((pre_D (va_D_swap hD)).weaken (fun _ _ _ h => hLo _ h))) (cwV 0 hts gL_law_X9_undo rfl rfl rfl (by decide +kernel) ⟨(Nat.le_of_ble_eq_true rfl), (Nat.le_of_ble_eq_true rfl)⟩) (preV hC hS hLo (PP_r hP) (ci := 8) (q0 := 0) rfl rfl) rfl rfl hl.1 rfl (lv_room (Nat.le_of_ble_eq_true rfl)) dL_law_1607 ⟨by show c0 + _ ≤ 601024; omega, by show s0 + _ ≤ 7293034; omega⟩) hP hD hS hA (fun _ => rfl) (fun r_6 u_4 H locs q_5 hP hD hS => ?_)
  have hP : PP G (lwW G a (hv ((nx + 6 - 1) % 6)) mo ki pr df co bi g9 lr bf tn ln ((nx + 6 - 1) % 6) (ct - 1) hv v0 k0 v1 k1 oa (vp_updL of 0 ((nI (ct - 1)).toInt64)) mh m1 m2 m3 m4 m5 (cpS ss hi (205 * (kn - 1)) 205) hi sl tx ne (nI 0) (kn - 1) ke le sp wr si on tw dn) H := hP
  have hD : va_D (lo G) (lwW G a (hv ((nx + 6 - 1) % 6)) mo ki pr df co bi g9 lr bf tn ln ((nx + 6 - 1) % 6) (ct - 1) hv v0 k0 v1 k1 oa (vp_updL of 0 ((nI (ct - 1)).toInt64)) mh m1 m2 m3 m4 m5 (cpS ss hi (205 * (kn - 1)) 205) hi sl tx ne (nI 0) (kn - 1) ke le sp wr si on tw dn) := hD
  refine topE (v' := nI (ct - 1)) (q_5.trans (heq)) ?_
  refine lv_istore (lv' := [(6, .int (nI (ct - 1))), (5, .int (nI (0))), (0, .ref bq), (1, .ref (a 0)), (2, .ref mh), (3, .ref oa), (4, .int (nI (i)))]) hx hb dL_law_1610 hl (by decide) rfl (fun ls hl => ?_)
  refine lv_aload_n hx hb dL_law_1612 rfl (lv_at hl 4 rfl) ?_
  refine kPi (va_runV (As := []) (rest := []) ⟨hx, hb, hml, hown, hts⟩ (c_X9_thrown mh m1 m2 m3 m4 m5 (cpS ss hi (205 * (kn - 1)) 205) hi sl tx ne (nI (0)) (kn - 1) ke le sp wr si on tw dn (PP_r hP)) (cwV 0 hts gL_law_X9_thrown rfl rfl rfl (by decide +kernel) ⟨(Nat.le_of_ble_eq_true rfl), (Nat.le_of_ble_eq_true rfl)⟩) (preV hC hS hLo (PP_r hP) (ci := 8) (q0 := 0) rfl rfl) rfl rfl hl.1 rfl (lv_room (Nat.le_of_ble_eq_true rfl)) dL_law_1613 ⟨by show c0 + _ ≤ 601024; omega, by show s0 + _ ≤ 7293034; omega⟩) hS (fun locs hS => ?_)
  refine lv_iload hx hb dL_law_1616 (lv_at hl 1 rfl) ?_
  refine lv_icmp_eq (tgt := 1623) hx hb dL_law_1618 (by decide) (fun c_7 => ?_) (fun c_7 => ?_)
  · have f_8 := c_7
    refine lv_iload hx hb dL_law_1623 (lv_at hl 1 rfl) ?_
    refine lv_if_ne (tgt := 1640) hx hb dL_law_1625 (by decide) (fun c_9 => ?_) (fun c_9 => ?_)
    · have f_10 : ¬ (0 : Int) = (0 : Int) := fun z => c_9 ((c_eq (nI_toInt (n := 0) (by omega)) rfl).mpr z)
      exfalso; omega
    · have f_11 : (0 : Int) = (0 : Int) := (c_eq (nI_toInt (n := 0) (by omega)) rfl).mp c_9
      refine lv_aload_n hx hb dL_law_1628 rfl (lv_at hl 5 rfl) ?_
      refine lv_iconst (v := nI (0)) hx hb dL_law_1629 (by decide) ?_
      refine gLald (j := 0) hx hb hC.K (PP_r (PP_l hP)) 0 4 rfl rfl rfl (by decide) (by decide) dL_law_1630 ?_
      refine W.eq (g2 := F0 m 1631 ls [.long ((nI (ct - 1)).toInt64)]) rfl ?_
      refine lv_iload hx hb dL_law_1631 (lv_at hl 0 rfl) ?_
      refine lv_i2l (v := (nI (ct - 1)).toInt64) hx hb dL_law_1633 (rfl) ?_
      refine W.lcmp hx hb dL_law_1634 ?_
      refine topE (v' := nI (0)) (lg_self _) ?_
      refine lv_if_eq (tgt := 1640) hx hb dL_law_1635 (by decide) (fun c_12 => ?_) (fun c_12 => ?_)
      · have f_13 : (0 : Int) = (0 : Int) := (c_eq (nI_toInt (n := 0) (by omega)) rfl).mp c_12
        refine lv_goto (tgt := 1768) hx hb dL_law_1640 (by decide) ?_
        exact hk H locs ls hP hD hS (lv_sub hl [2, 3, 4, 5, 6] rfl)
      · have f_14 : ¬ (0 : Int) = (0 : Int) := fun z => c_12 ((c_eq (nI_toInt (n := 0) (by omega)) rfl).mpr z)
        exfalso; omega
  · have f_15 := c_7
    exact absurd rfl f_15

set_option maxHeartbeats 4000000 in
set_option maxRecDepth 100000 in
theorem lw_31_x1 {pg : Program} {l : Launch} {ev : Env} {s : State} {m : MethodId} {below : List Frame} {meth : Method} {c : Code} {Q : State → Prop} {G : GT} {bq L : Nat} {xs : Nat → Int32} (hLK : LK pg l s m meth c bq L xs G) (c0 s0 : Nat) (hroom : c0 + 1 ≤ 601024 ∧ s0 + 6 ≤ 7293034) (a : Nat → Nat) (v : SVT) (mo ki : Nat → Nat) (pr df : Nat → Int) (co : Int32) (bi : Nat) (g9 : Nat → Int32) (lr : Nat) (bf : Nat → Int) (tn : Nat → Nat) (ln nx ct : Nat) (hv : Nat → SVT) (v0 : SVT) (k0 : Nat) (v1 : SVT) (k1 : Nat) (oa : Nat) (of : Nat → Int64) (mh m1 m2 m3 m4 m5 : Nat) (ss hi sl : Nat → Int) (tx : Nat → Nat) (ne : Nat → Int) (th : Int32) (kn ke le : Nat) (sp wr si on tw dn : Int32) (i : Nat) (hi5 : i + 5 ≤ L) (hct : ct = 0) (hkn : kn = 0) {H : Heap} {locs : List Loc} {ls : Array Slot} (hP : PP G (lwW G a v mo ki pr df co bi g9 lr bf tn ln nx ct hv v0 k0 v1 k1 oa of mh m1 m2 m3 m4 m5 ss hi sl tx ne th kn ke le sp wr si on tw dn) H) (hD : va_D (lo G) (lwW G a v mo ki pr df co bi g9 lr bf tn ln nx ct hv v0 k0 v1 k1 oa of mh m1 m2 m3 m4 m5 ss hi sl tx ne th kn ke le sp wr si on tw dn)) (hS : va_S (lo G) s.heap H locs) (hl : lv_has ls 7 [(0, .ref bq), (1, .ref (a 0)), (2, .ref mh), (3, .ref oa), (4, .int (nI (i)))])
    (hk : ∀ (H : Heap) (locs : List Loc) (ls : Array Slot), PP G (lwW G a v mo ki pr df co bi g9 lr bf tn ln nx ct hv v0 k0 v1 k1 oa of mh m1 m2 m3 m4 m5 ss hi sl tx ne (nI 1) kn ke le sp wr si on tw dn) H → va_D (lo G) (lwW G a v mo ki pr df co bi g9 lr bf tn ln nx ct hv v0 k0 v1 k1 oa of mh m1 m2 m3 m4 m5 ss hi sl tx ne (nI 1) kn ke le sp wr si on tw dn) → va_S (lo G) s.heap H locs → lv_has ls 7 [(0, .ref bq), (1, .ref (a 0)), (2, .ref mh), (3, .ref oa), (4, .int (nI (i)))] → W pg l ev room_1 s m #[Value.ref bq] below meth c H locs (c0 + 1) (s0 + 6) Q (F0 m 1768 ls [])) :
    W pg l ev room_1 s m #[Value.ref bq] below meth c H locs c0 s0 Q (F0 m 1599 ls []) := by
  obtain ⟨hx, hb, hml, hown, hts, hX, hbl, hCX, hgB, hfl, hL9⟩ := hLK
  have hC := hCX.1
  have hLo : ∀ q, lo G q → lo G q := fun _ h => h
  have hA : ∀ q, s.heap.size ≤ q → lo G q := fun q h => by show gB G ≤ q; rw [hgB]; exact h
  have hbA : ¬ lo G bq := by show ¬ gB G ≤ bq; rw [hgB]; omega
  refine lv_aload_n hx hb dL_law_1599 rfl (lv_at hl 1 rfl) ?_
  refine lv_aload_n hx hb dL_law_1600 rfl (lv_at hl 3 rfl) ?_
  refine kPreI (vx_runSW (As := [.ref (a 0), .ref oa]) (rest := []) ⟨hx, hb, hml, hown, hts⟩ (c_L_undo_1 a v mo ki pr df co bi g9 lr bf tn ln nx ct hv v0 k0 v1 k1 oa of (hct) hfl (PP_l hP) ((pre_D hD).weaken (fun _ _ _ h => hLo _ h))) (vx_cwSW 2 hts gL_law_L_undo rfl rfl rfl (by decide +kernel) ⟨(Nat.le_of_ble_eq_true rfl), (Nat.le_of_ble_eq_true rfl)⟩) (preSX hCX hS hLo) rfl rfl hl.1 rfl (lv_room (Nat.le_of_ble_eq_true rfl)) dL_law_1601 ⟨by show c0 + _ ≤ 601024; omega, by show s0 + _ ≤ 7293034; omega⟩) hP hD hS hA (fun _ => lw_fst) (fun r_3 u_1 H locs q_2 hP hD hS => ?_)
  have hP : PP G (lwW G a v mo ki pr df co bi g9 lr bf tn ln nx ct hv v0 k0 v1 k1 oa of mh m1 m2 m3 m4 m5 ss hi sl tx ne th kn ke le sp wr si on tw dn) H := hP
  have hD : va_D (lo G) (lwW G a v mo ki pr df co bi g9 lr bf tn ln nx ct hv v0 k0 v1 k1 oa of mh m1 m2 m3 m4 m5 ss hi sl tx ne th kn ke le sp wr si on tw dn) := hD
  refine topE (v' := nI (1)) (q_2) ?_
  refine lv_istore (lv' := [(5, .int (nI (1))), (0, .ref bq), (1, .ref (a 0)), (2, .ref mh), (3, .ref oa), (4, .int (nI (i)))]) hx hb dL_law_1604 hl (by decide) rfl (fun ls hl => ?_)
  refine lv_aload_n hx hb dL_law_1606 rfl (lv_at hl 3 rfl) ?_
  refine kSufI (va_runV (As := []) (rest := []) ⟨hx, hb, hml, hown, hts⟩ (c_X9_undo_1 mh m1 m2 m3 m4 m5 ss hi sl tx ne th kn ke le sp wr si on tw dn (hkn) (PP_r hP) ((pre_D (va_D_swap hD)).weaken (fun _ _ _ h => hLo _ h))) (cwV 0 hts gL_law_X9_undo rfl rfl rfl (by decide +kernel) ⟨(Nat.le_of_ble_eq_true rfl), (Nat.le_of_ble_eq_true rfl)⟩) (preV hC hS hLo (PP_r hP) (ci := 8) (q0 := 0) rfl rfl) rfl rfl hl.1 rfl (lv_room (Nat.le_of_ble_eq_true rfl)) dL_law_1607 ⟨by show c0 + _ ≤ 601024; omega, by show s0 + _ ≤ 7293034; omega⟩) hP hD hS hA (fun _ => rfl) (fun r_6 u_4 H locs q_5 hP hD hS => ?_)
  have hP : PP G (lwW G a v mo ki pr df co bi g9 lr bf tn ln nx ct hv v0 k0 v1 k1 oa of mh m1 m2 m3 m4 m5 ss hi sl tx ne (nI 1) kn ke le sp wr si on tw dn) H := hP
  have hD : va_D (lo G) (lwW G a v mo ki pr df co bi g9 lr bf tn ln nx ct hv v0 k0 v1 k1 oa of mh m1 m2 m3 m4 m5 ss hi sl tx ne (nI 1) kn ke le sp wr si on tw dn) := hD
  refine topE (v' := nI (0)) (q_5) ?_
  refine lv_istore (lv' := [(6, .int (nI (0))), (5, .int (nI (1))), (0, .ref bq), (1, .ref (a 0)), (2, .ref mh), (3, .ref oa), (4, .int (nI (i)))]) hx hb dL_law_1610 hl (by decide) rfl (fun ls hl => ?_)
  refine lv_aload_n hx hb dL_law_1612 rfl (lv_at hl 4 rfl) ?_
  refine kPi (va_runV (As := []) (rest := []) ⟨hx, hb, hml, hown, hts⟩ (c_X9_thrown mh m1 m2 m3 m4 m5 ss hi sl tx ne (nI (1)) kn ke le sp wr si on tw dn (PP_r hP)) (cwV 0 hts gL_law_X9_thrown rfl rfl rfl (by decide +kernel) ⟨(Nat.le_of_ble_eq_true rfl), (Nat.le_of_ble_eq_true rfl)⟩) (preV hC hS hLo (PP_r hP) (ci := 8) (q0 := 0) rfl rfl) rfl rfl hl.1 rfl (lv_room (Nat.le_of_ble_eq_true rfl)) dL_law_1613 ⟨by show c0 + _ ≤ 601024; omega, by show s0 + _ ≤ 7293034; omega⟩) hS (fun locs hS => ?_)
  refine lv_iload hx hb dL_law_1616 (lv_at hl 1 rfl) ?_
  refine lv_icmp_eq (tgt := 1623) hx hb dL_law_1618 (by decide) (fun c_7 => ?_) (fun c_7 => ?_)
  · have f_8 := c_7
    refine lv_iload hx hb dL_law_1623 (lv_at hl 1 rfl) ?_
    refine lv_if_ne (tgt := 1640) hx hb dL_law_1625 (by decide) (fun c_9 => ?_) (fun c_9 => ?_)
    · have f_10 : ¬ (1 : Int) = (0 : Int) := fun z => c_9 ((c_eq (nI_toInt (n := 1) (by omega)) rfl).mpr z)
      refine lv_goto (tgt := 1768) hx hb dL_law_1640 (by decide) ?_
      exact hk H locs ls hP hD hS (lv_sub hl [2, 3, 4, 5, 6] rfl)
    · have f_11 : (1 : Int) = (0 : Int) := (c_eq (nI_toInt (n := 1) (by omega)) rfl).mp c_9
      exfalso; omega
  · have f_12 := c_7
    exact absurd rfl f_12

set_option maxHeartbeats 4000000 in
set_option maxRecDepth 100000 in
theorem lw_32_ok {pg : Program} {l : Launch} {ev : Env} {s : State} {m : MethodId} {below : List Frame} {meth : Method} {c : Code} {Q : State → Prop} {G : GT} {bq L : Nat} {xs : Nat → Int32} (hLK : LK pg l s m meth c bq L xs G) (c0 s0 : Nat) (hroom : c0 + 1 ≤ 601024 ∧ s0 + 6 ≤ 7293034) (a : Nat → Nat) (v : SVT) (mo ki : Nat → Nat) (pr df : Nat → Int) (co : Int32) (bi : Nat) (g9 : Nat → Int32) (lr : Nat) (bf : Nat → Int) (tn : Nat → Nat) (ln nx ct : Nat) (hv : Nat → SVT) (v0 : SVT) (k0 : Nat) (v1 : SVT) (k1 : Nat) (oa : Nat) (of : Nat → Int64) (mh m1 m2 m3 m4 m5 : Nat) (ss hi sl : Nat → Int) (tx : Nat → Nat) (ne : Nat → Int) (th : Int32) (kn ke le : Nat) (sp wr si on tw dn : Int32) (i : Nat) (hi5 : i + 5 ≤ L) (heq : nI (kn) = nI (ct)) {H : Heap} {locs : List Loc} {ls : Array Slot} (hP : PP G (lwW G a v mo ki pr df co bi g9 lr bf tn ln nx ct hv v0 k0 v1 k1 oa of mh m1 m2 m3 m4 m5 ss hi sl tx ne th kn ke le sp wr si on tw dn) H) (hD : va_D (lo G) (lwW G a v mo ki pr df co bi g9 lr bf tn ln nx ct hv v0 k0 v1 k1 oa of mh m1 m2 m3 m4 m5 ss hi sl tx ne th kn ke le sp wr si on tw dn)) (hS : va_S (lo G) s.heap H locs) (hl : lv_has ls 7 [(0, .ref bq), (1, .ref (a 0)), (2, .ref mh), (3, .ref oa), (4, .int (nI (i)))])
    (hk : ∀ (H : Heap) (locs : List Loc) (ls : Array Slot), PP G (lwW G a v mo ki pr df co bi g9 lr bf tn ln nx ct hv v0 k0 v1 k1 oa of mh m1 m2 m3 m4 m5 ss hi sl tx ne (nI 0) kn ke le sp wr si on tw dn) H → va_D (lo G) (lwW G a v mo ki pr df co bi g9 lr bf tn ln nx ct hv v0 k0 v1 k1 oa of mh m1 m2 m3 m4 m5 ss hi sl tx ne (nI 0) kn ke le sp wr si on tw dn) → va_S (lo G) s.heap H locs → lv_has ls 7 [(0, .ref bq), (1, .ref (a 0)), (2, .ref mh), (3, .ref oa), (4, .int (nI (i)))] → W pg l ev room_1 s m #[Value.ref bq] below meth c H locs (c0 + 0) (s0 + 0) Q (F0 m 1768 ls [])) :
    W pg l ev room_1 s m #[Value.ref bq] below meth c H locs c0 s0 Q (F0 m 1643 ls []) := by
  obtain ⟨hx, hb, hml, hown, hts, hX, hbl, hCX, hgB, hfl, hL9⟩ := hLK
  have hC := hCX.1
  have hLo : ∀ q, lo G q → lo G q := fun _ h => h
  have hA : ∀ q, s.heap.size ≤ q → lo G q := fun q h => by show gB G ≤ q; rw [hgB]; exact h
  have hbA : ¬ lo G bq := by show ¬ gB G ≤ bq; rw [hgB]; omega
  refine lv_aload_n hx hb dL_law_1643 rfl (lv_at hl 1 rfl) ?_
  refine kPi (va_runV (As := []) (rest := []) ⟨hx, hb, hml, hown, hts⟩ (c_X8_undoCount a nx ct (xW_his (PP_l (PP_l hP)))) (cwV 0 hts gL_law_X8_undoCount rfl rfl rfl (by decide +kernel) ⟨(Nat.le_of_ble_eq_true rfl), (Nat.le_of_ble_eq_true rfl)⟩) (preV hC hS hLo hP (ci := 7) (q0 := 0) rfl rfl) rfl rfl hl.1 rfl (lv_room (Nat.le_of_ble_eq_true rfl)) dL_law_1644 ⟨by show c0 + _ ≤ 601024; omega, by show s0 + _ ≤ 7293034; omega⟩) hS (fun locs hS => ?_)
  refine lv_aload_n hx hb dL_law_1647 rfl (lv_at hl 2 rfl) ?_
  refine kSufI (va_runV (As := []) (rest := [.int (nI (ct))]) ⟨hx, hb, hml, hown, hts⟩ (c_X9_undoCount mh m1 m2 m3 m4 m5 ss hi sl tx ne th kn ke le sp wr si on tw dn (PP_r hP) ((pre_D (va_D_swap hD)).weaken (fun _ _ _ h => hLo _ h))) (cwV 0 hts gL_law_X9_undoCount rfl rfl rfl (by decide +kernel) ⟨(Nat.le_of_ble_eq_true rfl), (Nat.le_of_ble_eq_true rfl)⟩) (preV hC hS hLo (PP_r hP) (ci := 8) (q0 := 0) rfl rfl) rfl rfl hl.1 rfl (lv_room (Nat.le_of_ble_eq_true rfl)) dL_law_1648 ⟨by show c0 + _ ≤ 601024; omega, by show s0 + _ ≤ 7293034; omega⟩) hP hD hS hA (fun _ => rfl) (fun r_3 u_1 H locs q_2 hP hD hS => ?_)
  have hP : PP G (lwW G a v mo ki pr df co bi g9 lr bf tn ln nx ct hv v0 k0 v1 k1 oa of mh m1 m2 m3 m4 m5 ss hi sl tx ne (nI 0) kn ke le sp wr si on tw dn) H := hP
  have hD : va_D (lo G) (lwW G a v mo ki pr df co bi g9 lr bf tn ln nx ct hv v0 k0 v1 k1 oa of mh m1 m2 m3 m4 m5 ss hi sl tx ne (nI 0) kn ke le sp wr si on tw dn) := hD
  refine topE (v' := nI (ct)) (q_2.trans (heq)) ?_
  refine lv_icmp_eq (tgt := 1768) hx hb dL_law_1651 (by decide) (fun c_4 => ?_) (fun c_4 => ?_)
  · have f_5 := c_4
    exact hk H locs ls hP hD hS (lv_sub hl [0, 1, 2, 3, 4] rfl)
  · have f_6 := c_4
    exact absurd rfl f_6

set_option maxHeartbeats 4000000 in
set_option maxRecDepth 100000 in
theorem lw_33_ok0 {pg : Program} {l : Launch} {ev : Env} {s : State} {m : MethodId} {below : List Frame} {meth : Method} {c : Code} {Q : State → Prop} {G : GT} {bq L : Nat} {xs : Nat → Int32} (hLK : LK pg l s m meth c bq L xs G) (c0 s0 : Nat) (hroom : c0 + 1 ≤ 601024 ∧ s0 + 6 ≤ 7293034) (a : Nat → Nat) (v : SVT) (mo ki : Nat → Nat) (pr df : Nat → Int) (co : Int32) (bi : Nat) (g9 : Nat → Int32) (lr : Nat) (bf : Nat → Int) (tn : Nat → Nat) (ln nx ct : Nat) (hv : Nat → SVT) (v0 : SVT) (k0 : Nat) (v1 : SVT) (k1 : Nat) (oa : Nat) (of : Nat → Int64) (mh m1 m2 m3 m4 m5 : Nat) (ss hi sl : Nat → Int) (tx : Nat → Nat) (ne : Nat → Int) (th : Int32) (kn ke le : Nat) (sp wr si on tw dn : Int32) (i : Nat) (hi5 : i + 5 ≤ L) (ha1 : xs (i + 1) = nI (0)) (hke : ke ≤ 3) (heq : iI (ss 194) = nI (v.2.2.2.2.2.2.2.1)) {H : Heap} {locs : List Loc} {ls : Array Slot} (hP : PP G (lwW G a v mo ki pr df co bi g9 lr bf tn ln nx ct hv v0 k0 v1 k1 oa of mh m1 m2 m3 m4 m5 ss hi sl tx ne th kn ke le sp wr si on tw dn) H) (hD : va_D (lo G) (lwW G a v mo ki pr df co bi g9 lr bf tn ln nx ct hv v0 k0 v1 k1 oa of mh m1 m2 m3 m4 m5 ss hi sl tx ne th kn ke le sp wr si on tw dn)) (hS : va_S (lo G) s.heap H locs) (hl : lv_has ls 7 [(0, .ref bq), (1, .ref (a 0)), (2, .ref mh), (3, .ref oa), (4, .int (nI (i)))])
    (hk : ∀ (H : Heap) (locs : List Loc) (ls : Array Slot), PP G (lwW G a v mo ki pr df co bi g9 lr bf tn ln nx ct hv v 1 v1 k1 oa (vp_updL of 0 ((nI (v.2.2.2.2.2.2.2.1)).toInt64)) mh m1 m2 m3 m4 m5 ss hi (cpH sl ss (205 * 0) 205) tx ne (nI 0) kn (ke ||| 1) le sp wr si on tw dn) H → va_D (lo G) (lwW G a v mo ki pr df co bi g9 lr bf tn ln nx ct hv v 1 v1 k1 oa (vp_updL of 0 ((nI (v.2.2.2.2.2.2.2.1)).toInt64)) mh m1 m2 m3 m4 m5 ss hi (cpH sl ss (205 * 0) 205) tx ne (nI 0) kn (ke ||| 1) le sp wr si on tw dn) → va_S (lo G) s.heap H locs → lv_has ls 7 [(0, .ref bq), (1, .ref (a 0)), (2, .ref mh), (3, .ref oa), (4, .int (nI (i)))] → W pg l ev room_1 s m #[Value.ref bq] below meth c H locs (c0 + 0) (s0 + 0) Q (F0 m 1768 ls [])) :
    W pg l ev room_1 s m #[Value.ref bq] below meth c H locs c0 s0 Q (F0 m 1656 ls []) := by
  obtain ⟨hx, hb, hml, hown, hts, hX, hbl, hCX, hgB, hfl, hL9⟩ := hLK
  have hC := hCX.1
  have hLo : ∀ q, lo G q → lo G q := fun _ h => h
  have hA : ∀ q, s.heap.size ≤ q → lo G q := fun q h => by show gB G ≤ q; rw [hgB]; exact h
  have hbA : ¬ lo G bq := by show ¬ gB G ≤ bq; rw [hgB]; omega
  refine lv_aload_n hx hb dL_law_1656 rfl (lv_at hl 1 rfl) ?_
  refine lv_aload_n hx hb dL_law_1657 rfl (lv_at hl 0 rfl) ?_
  refine lv_iload hx hb dL_law_1658 (lv_at hl 4 rfl) ?_
  refine lv_iconst (v := nI (1)) hx hb dL_law_1660 (by decide) ?_
  refine gAdd (z := nI (i + 1)) hx hb dL_law_1661 (nI_add _ _) ?_
  refine gScr (i := i + 1) (v := nI (0)) hx hb hX hbl hbA hS (by omega) hL9 ha1 dL_law_1662 ?_
  refine lv_aload_n hx hb dL_law_1663 rfl (lv_at hl 3 rfl) ?_
  refine kPreI (vx_runSW (As := [.ref (a 0), .int (nI (0)), .ref oa]) (rest := []) ⟨hx, hb, hml, hown, hts⟩ (c_L_saveState_s0 a v mo ki pr df co bi g9 lr bf tn ln nx ct hv v0 k0 v1 k1 oa of (PP_l hP) ((pre_D hD).weaken (fun _ _ _ h => hLo _ h))) (vx_cwSW 3 hts gL_law_L_saveState rfl rfl rfl (by decide +kernel) ⟨(Nat.le_of_ble_eq_true rfl), (Nat.le_of_ble_eq_true rfl)⟩) (preS hC hS hLo) rfl rfl hl.1 rfl (lv_room (Nat.le_of_ble_eq_true rfl)) dL_law_1664 ⟨by show c0 + _ ≤ 601024; omega, by show s0 + _ ≤ 7293034; omega⟩) hP hD hS hA (fun _ => lw_fst) (fun r_3 u_1 H locs q_2 hP hD hS => ?_)
  have hP : PP G (lwW G a v mo ki pr df co bi g9 lr bf tn ln nx ct hv v 1 v1 k1 oa (vp_updL of 0 ((nI (v.2.2.2.2.2.2.2.1)).toInt64)) mh m1 m2 m3 m4 m5 ss hi sl tx ne th kn ke le sp wr si on tw dn) H := hP
  have hD : va_D (lo G) (lwW G a v mo ki pr df co bi g9 lr bf tn ln nx ct hv v 1 v1 k1 oa (vp_updL of 0 ((nI (v.2.2.2.2.2.2.2.1)).toInt64)) mh m1 m2 m3 m4 m5 ss hi sl tx ne th kn ke le sp wr si on tw dn) := hD
  refine topE (v' := nI (0)) (q_2) ?_
  refine lv_istore (lv' := [(5, .int (nI (0))), (0, .ref bq), (1, .ref (a 0)), (2, .ref mh), (3, .ref oa), (4, .int (nI (i)))]) hx hb dL_law_1667 hl (by decide) rfl (fun ls hl => ?_)
  refine lv_aload_n hx hb dL_law_1669 rfl (lv_at hl 3 rfl) ?_
  refine lv_aload_n hx hb dL_law_1670 rfl (lv_at hl 1 rfl) ?_
  refine lv_iload hx hb dL_law_1671 (lv_at hl 5 rfl) ?_
  refine lv_iconst (v := nI (1)) hx hb dL_law_1673 (by decide) ?_
  refine gAdd (z := nI (i + 1)) hx hb dL_law_1674 (nI_add _ _) ?_
  refine gScr (i := i + 1) (v := nI (0)) hx hb hX hbl hbA hS (by omega) hL9 ha1 dL_law_1675 ?_
  refine kSufI (va_runV (As := [.int (nI (0))]) (rest := []) ⟨hx, hb, hml, hown, hts⟩ (c_X9_saveState_0s mh m1 m2 m3 m4 m5 ss hi sl tx ne th kn ke le sp wr si on tw dn (hke) (PP_r hP) ((pre_D (va_D_swap hD)).weaken (fun _ _ _ h => hLo _ h))) (cwV 1 hts gL_law_X9_saveState rfl rfl rfl (by decide +kernel) ⟨(Nat.le_of_ble_eq_true rfl), (Nat.le_of_ble_eq_true rfl)⟩) (preV hC hS hLo (PP_r hP) (ci := 8) (q0 := 0) rfl rfl) rfl rfl hl.1 rfl (lv_room (Nat.le_of_ble_eq_true rfl)) dL_law_1676 ⟨by show c0 + _ ≤ 601024; omega, by show s0 + _ ≤ 7293034; omega⟩) hP hD hS hA (fun _ => rfl) (fun r_6 u_4 H locs q_5 hP hD hS => ?_)
  have hP : PP G (lwW G a v mo ki pr df co bi g9 lr bf tn ln nx ct hv v 1 v1 k1 oa (vp_updL of 0 ((nI (v.2.2.2.2.2.2.2.1)).toInt64)) mh m1 m2 m3 m4 m5 ss hi (cpH sl ss (205 * 0) 205) tx ne (nI 0) kn (ke ||| 1) le sp wr si on tw dn) H := hP
  have hD : va_D (lo G) (lwW G a v mo ki pr df co bi g9 lr bf tn ln nx ct hv v 1 v1 k1 oa (vp_updL of 0 ((nI (v.2.2.2.2.2.2.2.1)).toInt64)) mh m1 m2 m3 m4 m5 ss hi (cpH sl ss (205 * 0) 205) tx ne (nI 0) kn (ke ||| 1) le sp wr si on tw dn) := hD
  refine topE (v' := nI (v.2.2.2.2.2.2.2.1)) (q_5.trans (heq)) ?_
  refine lv_istore (lv' := [(6, .int (nI (v.2.2.2.2.2.2.2.1))), (5, .int (nI (0))), (0, .ref bq), (1, .ref (a 0)), (2, .ref mh), (3, .ref oa), (4, .int (nI (i)))]) hx hb dL_law_1679 hl (by decide) rfl (fun ls hl => ?_)
  refine lv_aload_n hx hb dL_law_1681 rfl (lv_at hl 4 rfl) ?_
  refine kPi (va_runV (As := []) (rest := []) ⟨hx, hb, hml, hown, hts⟩ (c_X9_thrown mh m1 m2 m3 m4 m5 ss hi (cpH sl ss (205 * 0) 205) tx ne (nI (0)) kn (ke ||| 1) le sp wr si on tw dn (PP_r hP)) (cwV 0 hts gL_law_X9_thrown rfl rfl rfl (by decide +kernel) ⟨(Nat.le_of_ble_eq_true rfl), (Nat.le_of_ble_eq_true rfl)⟩) (preV hC hS hLo (PP_r hP) (ci := 8) (q0 := 0) rfl rfl) rfl rfl hl.1 rfl (lv_room (Nat.le_of_ble_eq_true rfl)) dL_law_1682 ⟨by show c0 + _ ≤ 601024; omega, by show s0 + _ ≤ 7293034; omega⟩) hS (fun locs hS => ?_)
  refine lv_iload hx hb dL_law_1685 (lv_at hl 1 rfl) ?_
  refine lv_icmp_eq (tgt := 1692) hx hb dL_law_1687 (by decide) (fun c_7 => ?_) (fun c_7 => ?_)
  · have f_8 := c_7
    refine lv_iload hx hb dL_law_1692 (lv_at hl 1 rfl) ?_
    refine lv_if_ne (tgt := 1709) hx hb dL_law_1694 (by decide) (fun c_9 => ?_) (fun c_9 => ?_)
    · have f_10 : ¬ (0 : Int) = (0 : Int) := fun z => c_9 ((c_eq (nI_toInt (n := 0) (by omega)) rfl).mpr z)
      exfalso; omega
    · have f_11 : (0 : Int) = (0 : Int) := (c_eq (nI_toInt (n := 0) (by omega)) rfl).mp c_9
      refine lv_aload_n hx hb dL_law_1697 rfl (lv_at hl 5 rfl) ?_
      refine lv_iconst (v := nI (0)) hx hb dL_law_1698 (by decide) ?_
      refine gLald (j := 0) hx hb hC.K (PP_r (PP_l hP)) 0 4 rfl rfl rfl (by decide) (by decide) dL_law_1699 ?_
      refine W.eq (g2 := F0 m 1700 ls [.long ((nI (v.2.2.2.2.2.2.2.1)).toInt64)]) rfl ?_
      refine lv_iload hx hb dL_law_1700 (lv_at hl 0 rfl) ?_
      refine lv_i2l (v := (nI (v.2.2.2.2.2.2.2.1)).toInt64) hx hb dL_law_1702 (rfl) ?_
      refine W.lcmp hx hb dL_law_1703 ?_
      refine topE (v' := nI (0)) (lg_self _) ?_
      refine lv_if_eq (tgt := 1709) hx hb dL_law_1704 (by decide) (fun c_12 => ?_) (fun c_12 => ?_)
      · have f_13 : (0 : Int) = (0 : Int) := (c_eq (nI_toInt (n := 0) (by omega)) rfl).mp c_12
        refine lv_goto (tgt := 1768) hx hb dL_law_1709 (by decide) ?_
        exact hk H locs ls hP hD hS (lv_sub hl [2, 3, 4, 5, 6] rfl)
      · have f_14 : ¬ (0 : Int) = (0 : Int) := fun z => c_12 ((c_eq (nI_toInt (n := 0) (by omega)) rfl).mpr z)
        exfalso; omega
  · have f_15 := c_7
    exact absurd rfl f_15

set_option maxHeartbeats 4000000 in
set_option maxRecDepth 100000 in
theorem lw_34_ok0 {pg : Program} {l : Launch} {ev : Env} {s : State} {m : MethodId} {below : List Frame} {meth : Method} {c : Code} {Q : State → Prop} {G : GT} {bq L : Nat} {xs : Nat → Int32} (hLK : LK pg l s m meth c bq L xs G) (c0 s0 : Nat) (hroom : c0 + 1 ≤ 601024 ∧ s0 + 6 ≤ 7293034) (a : Nat → Nat) (v : SVT) (mo ki : Nat → Nat) (pr df : Nat → Int) (co : Int32) (bi : Nat) (g9 : Nat → Int32) (lr : Nat) (bf : Nat → Int) (tn : Nat → Nat) (ln nx ct : Nat) (hv : Nat → SVT) (v0 : SVT) (k0 : Nat) (v1 : SVT) (k1 : Nat) (oa : Nat) (of : Nat → Int64) (mh m1 m2 m3 m4 m5 : Nat) (ss hi sl : Nat → Int) (tx : Nat → Nat) (ne : Nat → Int) (th : Int32) (kn ke le : Nat) (sp wr si on tw dn : Int32) (i : Nat) (hi5 : i + 5 ≤ L) (ha1 : xs (i + 1) = nI (0)) (hnx : nx < 6) (hct : ct ≤ 6) (hk3 : k0 = 1) (hkn : kn ≤ 6) (hke : ke ≤ 3) (hk9 : ke / 1 % 2 = 1) (heq : iI (cpS ss sl (205 * 0) 205 194) = nI (v0.2.2.2.2.2.2.2.1)) {H : Heap} {locs : List Loc} {ls : Array Slot} (hP : PP G (lwW G a v mo ki pr df co bi g9 lr bf tn ln nx ct hv v0 k0 v1 k1 oa of mh m1 m2 m3 m4 m5 ss hi sl tx ne th kn ke le sp wr si on tw dn) H) (hD : va_D (lo G) (lwW G a v mo ki pr df co bi g9 lr bf tn ln nx ct hv v0 k0 v1 k1 oa of mh m1 m2 m3 m4 m5 ss hi sl tx ne th kn ke le sp wr si on tw dn)) (hS : va_S (lo G) s.heap H locs) (hl : lv_has ls 7 [(0, .ref bq), (1, .ref (a 0)), (2, .ref mh), (3, .ref oa), (4, .int (nI (i)))])
    (hk : ∀ (H : Heap) (locs : List Loc) (ls : Array Slot), PP G (lwW G a v0 mo ki pr df co bi g9 lr bf tn ln ((nx + 1) % 6) (min (ct + 1) 6) (va_up hv nx v) v0 k0 v1 k1 oa (vp_updL of 0 ((nI (v0.2.2.2.2.2.2.2.1)).toInt64)) mh m1 m2 m3 m4 m5 (cpS ss sl (205 * 0) 205) (recH hi ss kn) sl tx ne (nI 0) (min (kn + 1) 6) ke le sp wr si on tw dn) H → va_D (lo G) (lwW G a v0 mo ki pr df co bi g9 lr bf tn ln ((nx + 1) % 6) (min (ct + 1) 6) (va_up hv nx v) v0 k0 v1 k1 oa (vp_updL of 0 ((nI (v0.2.2.2.2.2.2.2.1)).toInt64)) mh m1 m2 m3 m4 m5 (cpS ss sl (205 * 0) 205) (recH hi ss kn) sl tx ne (nI 0) (min (kn + 1) 6) ke le sp wr si on tw dn) → va_S (lo G) s.heap H locs → lv_has ls 7 [(0, .ref bq), (1, .ref (a 0)), (2, .ref mh), (3, .ref oa), (4, .int (nI (i)))] → W pg l ev room_1 s m #[Value.ref bq] below meth c H locs (c0 + 0) (s0 + 0) Q (F0 m 1768 ls [])) :
    W pg l ev room_1 s m #[Value.ref bq] below meth c H locs c0 s0 Q (F0 m 1712 ls []) := by
  obtain ⟨hx, hb, hml, hown, hts, hX, hbl, hCX, hgB, hfl, hL9⟩ := hLK
  have hC := hCX.1
  have hLo : ∀ q, lo G q → lo G q := fun _ h => h
  have hA : ∀ q, s.heap.size ≤ q → lo G q := fun q h => by show gB G ≤ q; rw [hgB]; exact h
  have hbA : ¬ lo G bq := by show ¬ gB G ≤ bq; rw [hgB]; omega
  refine lv_aload_n hx hb dL_law_1712 rfl (lv_at hl 1 rfl) ?_
  refine lv_aload_n hx hb dL_law_1713 rfl (lv_at hl 0 rfl) ?_
  refine lv_iload hx hb dL_law_1714 (lv_at hl 4 rfl) ?_
  refine lv_iconst (v := nI (1)) hx hb dL_law_1716 (by decide) ?_
  refine gAdd (z := nI (i + 1)) hx hb dL_law_1717 (nI_add _ _) ?_
  refine gScr (i := i + 1) (v := nI (0)) hx hb hX hbl hbA hS (by omega) hL9 ha1 dL_law_1718 ?_
  refine lv_aload_n hx hb dL_law_1719 rfl (lv_at hl 3 rfl) ?_
  refine kPreI (vx_runSW (As := [.ref (a 0), .int (nI (0)), .ref oa]) (rest := []) ⟨hx, hb, hml, hown, hts⟩ (c_L_loadState_s0 a v mo ki pr df co bi g9 lr bf tn ln nx ct hv v0 k0 v1 k1 oa of (hnx) (hct) (hk3) (PP_l hP) ((pre_D hD).weaken (fun _ _ _ h => hLo _ h))) (vx_cwSW 3 hts gL_law_L_loadState rfl rfl rfl (by decide +kernel) ⟨(Nat.le_of_ble_eq_true rfl), (Nat.le_of_ble_eq_true rfl)⟩) (preS hC hS hLo) rfl rfl hl.1 rfl (lv_room (Nat.le_of_ble_eq_true rfl)) dL_law_1720 ⟨by show c0 + _ ≤ 601024; omega, by show s0 + _ ≤ 7293034; omega⟩) hP hD hS hA (fun _ => lw_fst) (fun r_3 u_1 H locs q_2 hP hD hS => ?_)
  have hP : PP G (lwW G a v0 mo ki pr df co bi g9 lr bf tn ln ((nx + 1) % 6) (min (ct + 1) 6) (va_up hv nx v) v0 k0 v1 k1 oa (vp_updL of 0 ((nI (v0.2.2.2.2.2.2.2.1)).toInt64)) mh m1 m2 m3 m4 m5 ss hi sl tx ne th kn ke le sp wr si on tw dn) H := hP
  have hD : va_D (lo G) (lwW G a v0 mo ki pr df co bi g9 lr bf tn ln ((nx + 1) % 6) (min (ct + 1) 6) (va_up hv nx v) v0 k0 v1 k1 oa (vp_updL of 0 ((nI (v0.2.2.2.2.2.2.2.1)).toInt64)) mh m1 m2 m3 m4 m5 ss hi sl tx ne th kn ke le sp wr si on tw dn) := hD
  refine topE (v' := nI (0)) (q_2) ?_
  refine lv_istore (lv' := [(5, .int (nI (0))), (0, .ref bq), (1, .ref (a 0)), (2, .ref mh), (3, .ref oa), (4, .int (nI (i)))]) hx hb dL_law_1723 hl (by decide) rfl (fun ls hl => ?_)
  refine lv_aload_n hx hb dL_law_1725 rfl (lv_at hl 3 rfl) ?_
  refine lv_aload_n hx hb dL_law_1726 rfl (lv_at hl 1 rfl) ?_
  refine lv_iload hx hb dL_law_1727 (lv_at hl 5 rfl) ?_
  refine lv_iconst (v := nI (1)) hx hb dL_law_1729 (by decide) ?_
  refine gAdd (z := nI (i + 1)) hx hb dL_law_1730 (nI_add _ _) ?_
  refine gScr (i := i + 1) (v := nI (0)) hx hb hX hbl hbA hS (by omega) hL9 ha1 dL_law_1731 ?_
  refine kSufI (va_runV (As := [.int (nI (0))]) (rest := []) ⟨hx, hb, hml, hown, hts⟩ (c_X9_loadState_0s mh m1 m2 m3 m4 m5 ss hi sl tx ne th kn ke le sp wr si on tw dn (hkn) (hke) (hk9) (PP_r hP) ((pre_D (va_D_swap hD)).weaken (fun _ _ _ h => hLo _ h))) (cwV 1 hts gL_law_X9_loadState rfl rfl rfl (by decide +kernel) ⟨(Nat.le_of_ble_eq_true rfl), (Nat.le_of_ble_eq_true rfl)⟩) (preV hC hS hLo (PP_r hP) (ci := 8) (q0 := 0) rfl rfl) rfl rfl hl.1 rfl (lv_room (Nat.le_of_ble_eq_true rfl)) dL_law_1732 ⟨by show c0 + _ ≤ 601024; omega, by show s0 + _ ≤ 7293034; omega⟩) hP hD hS hA (fun _ => rfl) (fun r_6 u_4 H locs q_5 hP hD hS => ?_)
  have hP : PP G (lwW G a v0 mo ki pr df co bi g9 lr bf tn ln ((nx + 1) % 6) (min (ct + 1) 6) (va_up hv nx v) v0 k0 v1 k1 oa (vp_updL of 0 ((nI (v0.2.2.2.2.2.2.2.1)).toInt64)) mh m1 m2 m3 m4 m5 (cpS ss sl (205 * 0) 205) (recH hi ss kn) sl tx ne (nI 0) (min (kn + 1) 6) ke le sp wr si on tw dn) H := hP
  have hD : va_D (lo G) (lwW G a v0 mo ki pr df co bi g9 lr bf tn ln ((nx + 1) % 6) (min (ct + 1) 6) (va_up hv nx v) v0 k0 v1 k1 oa (vp_updL of 0 ((nI (v0.2.2.2.2.2.2.2.1)).toInt64)) mh m1 m2 m3 m4 m5 (cpS ss sl (205 * 0) 205) (recH hi ss kn) sl tx ne (nI 0) (min (kn + 1) 6) ke le sp wr si on tw dn) := hD
  refine topE (v' := nI (v0.2.2.2.2.2.2.2.1)) (q_5.trans (heq)) ?_
  refine lv_istore (lv' := [(6, .int (nI (v0.2.2.2.2.2.2.2.1))), (5, .int (nI (0))), (0, .ref bq), (1, .ref (a 0)), (2, .ref mh), (3, .ref oa), (4, .int (nI (i)))]) hx hb dL_law_1735 hl (by decide) rfl (fun ls hl => ?_)
  refine lv_aload_n hx hb dL_law_1737 rfl (lv_at hl 4 rfl) ?_
  refine kPi (va_runV (As := []) (rest := []) ⟨hx, hb, hml, hown, hts⟩ (c_X9_thrown mh m1 m2 m3 m4 m5 (cpS ss sl (205 * 0) 205) (recH hi ss kn) sl tx ne (nI (0)) (min (kn + 1) 6) ke le sp wr si on tw dn (PP_r hP)) (cwV 0 hts gL_law_X9_thrown rfl rfl rfl (by decide +kernel) ⟨(Nat.le_of_ble_eq_true rfl), (Nat.le_of_ble_eq_true rfl)⟩) (preV hC hS hLo (PP_r hP) (ci := 8) (q0 := 0) rfl rfl) rfl rfl hl.1 rfl (lv_room (Nat.le_of_ble_eq_true rfl)) dL_law_1738 ⟨by show c0 + _ ≤ 601024; omega, by show s0 + _ ≤ 7293034; omega⟩) hS (fun locs hS => ?_)
  refine lv_iload hx hb dL_law_1741 (lv_at hl 1 rfl) ?_
  refine lv_icmp_eq (tgt := 1748) hx hb dL_law_1743 (by decide) (fun c_7 => ?_) (fun c_7 => ?_)
  · have f_8 := c_7
    refine lv_iload hx hb dL_law_1748 (lv_at hl 1 rfl) ?_
    refine lv_if_ne (tgt := 1765) hx hb dL_law_1750 (by decide) (fun c_9 => ?_) (fun c_9 => ?_)
    · have f_10 : ¬ (0 : Int) = (0 : Int) := fun z => c_9 ((c_eq (nI_toInt (n := 0) (by omega)) rfl).mpr z)
      exfalso; omega
    · have f_11 : (0 : Int) = (0 : Int) := (c_eq (nI_toInt (n := 0) (by omega)) rfl).mp c_9
      refine lv_aload_n hx hb dL_law_1753 rfl (lv_at hl 5 rfl) ?_
      refine lv_iconst (v := nI (0)) hx hb dL_law_1754 (by decide) ?_
      refine gLald (j := 0) hx hb hC.K (PP_r (PP_l hP)) 0 4 rfl rfl rfl (by decide) (by decide) dL_law_1755 ?_
      refine W.eq (g2 := F0 m 1756 ls [.long ((nI (v0.2.2.2.2.2.2.2.1)).toInt64)]) rfl ?_
      refine lv_iload hx hb dL_law_1756 (lv_at hl 0 rfl) ?_
      refine lv_i2l (v := (nI (v0.2.2.2.2.2.2.2.1)).toInt64) hx hb dL_law_1758 (rfl) ?_
      refine W.lcmp hx hb dL_law_1759 ?_
      refine topE (v' := nI (0)) (lg_self _) ?_
      refine lv_if_eq (tgt := 1765) hx hb dL_law_1760 (by decide) (fun c_12 => ?_) (fun c_12 => ?_)
      · have f_13 : (0 : Int) = (0 : Int) := (c_eq (nI_toInt (n := 0) (by omega)) rfl).mp c_12
        refine lv_goto (tgt := 1768) hx hb dL_law_1765 (by decide) ?_
        exact hk H locs ls hP hD hS (lv_sub hl [2, 3, 4, 5, 6] rfl)
      · have f_14 : ¬ (0 : Int) = (0 : Int) := fun z => c_12 ((c_eq (nI_toInt (n := 0) (by omega)) rfl).mpr z)
        exfalso; omega
  · have f_15 := c_7
    exact absurd rfl f_15

set_option maxHeartbeats 4000000 in
set_option maxRecDepth 100000 in
theorem lw_34_x20 {pg : Program} {l : Launch} {ev : Env} {s : State} {m : MethodId} {below : List Frame} {meth : Method} {c : Code} {Q : State → Prop} {G : GT} {bq L : Nat} {xs : Nat → Int32} (hLK : LK pg l s m meth c bq L xs G) (c0 s0 : Nat) (hroom : c0 + 1 ≤ 601024 ∧ s0 + 6 ≤ 7293034) (a : Nat → Nat) (v : SVT) (mo ki : Nat → Nat) (pr df : Nat → Int) (co : Int32) (bi : Nat) (g9 : Nat → Int32) (lr : Nat) (bf : Nat → Int) (tn : Nat → Nat) (ln nx ct : Nat) (hv : Nat → SVT) (v0 : SVT) (k0 : Nat) (v1 : SVT) (k1 : Nat) (oa : Nat) (of : Nat → Int64) (mh m1 m2 m3 m4 m5 : Nat) (ss hi sl : Nat → Int) (tx : Nat → Nat) (ne : Nat → Int) (th : Int32) (kn ke le : Nat) (sp wr si on tw dn : Int32) (i : Nat) (hi5 : i + 5 ≤ L) (ha1 : xs (i + 1) = nI (0)) (hk0 : k0 = 0) (hke : ke ≤ 3) (hk9 : ¬ ke / 1 % 2 = 1) {H : Heap} {locs : List Loc} {ls : Array Slot} (hP : PP G (lwW G a v mo ki pr df co bi g9 lr bf tn ln nx ct hv v0 k0 v1 k1 oa of mh m1 m2 m3 m4 m5 ss hi sl tx ne th kn ke le sp wr si on tw dn) H) (hD : va_D (lo G) (lwW G a v mo ki pr df co bi g9 lr bf tn ln nx ct hv v0 k0 v1 k1 oa of mh m1 m2 m3 m4 m5 ss hi sl tx ne th kn ke le sp wr si on tw dn)) (hS : va_S (lo G) s.heap H locs) (hl : lv_has ls 7 [(0, .ref bq), (1, .ref (a 0)), (2, .ref mh), (3, .ref oa), (4, .int (nI (i)))])
    (hk : ∀ (H : Heap) (locs : List Loc) (ls : Array Slot), PP G (lwW G a v mo ki pr df co bi g9 lr bf tn ln nx ct hv v0 k0 v1 k1 oa of mh m1 m2 m3 m4 m5 ss hi sl tx ne (nI 2) kn ke le sp wr si on tw dn) H → va_D (lo G) (lwW G a v mo ki pr df co bi g9 lr bf tn ln nx ct hv v0 k0 v1 k1 oa of mh m1 m2 m3 m4 m5 ss hi sl tx ne (nI 2) kn ke le sp wr si on tw dn) → va_S (lo G) s.heap H locs → lv_has ls 7 [(0, .ref bq), (1, .ref (a 0)), (2, .ref mh), (3, .ref oa), (4, .int (nI (i)))] → W pg l ev room_1 s m #[Value.ref bq] below meth c H locs (c0 + 1) (s0 + 6) Q (F0 m 1768 ls [])) :
    W pg l ev room_1 s m #[Value.ref bq] below meth c H locs c0 s0 Q (F0 m 1712 ls []) := by
  obtain ⟨hx, hb, hml, hown, hts, hX, hbl, hCX, hgB, hfl, hL9⟩ := hLK
  have hC := hCX.1
  have hLo : ∀ q, lo G q → lo G q := fun _ h => h
  have hA : ∀ q, s.heap.size ≤ q → lo G q := fun q h => by show gB G ≤ q; rw [hgB]; exact h
  have hbA : ¬ lo G bq := by show ¬ gB G ≤ bq; rw [hgB]; omega
  refine lv_aload_n hx hb dL_law_1712 rfl (lv_at hl 1 rfl) ?_
  refine lv_aload_n hx hb dL_law_1713 rfl (lv_at hl 0 rfl) ?_
  refine lv_iload hx hb dL_law_1714 (lv_at hl 4 rfl) ?_
  refine lv_iconst (v := nI (1)) hx hb dL_law_1716 (by decide) ?_
  refine gAdd (z := nI (i + 1)) hx hb dL_law_1717 (nI_add _ _) ?_
  refine gScr (i := i + 1) (v := nI (0)) hx hb hX hbl hbA hS (by omega) hL9 ha1 dL_law_1718 ?_
  refine lv_aload_n hx hb dL_law_1719 rfl (lv_at hl 3 rfl) ?_
  refine kPreI (vx_runSW (As := [.ref (a 0), .int (nI (0)), .ref oa]) (rest := []) ⟨hx, hb, hml, hown, hts⟩ (c_L_loadState_2s0 a v mo ki pr df co bi g9 lr bf tn ln nx ct hv v0 k0 v1 k1 oa of (hk0) hfl (PP_l hP) ((pre_D hD).weaken (fun _ _ _ h => hLo _ h))) (vx_cwSW 3 hts gL_law_L_loadState rfl rfl rfl (by decide +kernel) ⟨(Nat.le_of_ble_eq_true rfl), (Nat.le_of_ble_eq_true rfl)⟩) (preSX hCX hS hLo) rfl rfl hl.1 rfl (lv_room (Nat.le_of_ble_eq_true rfl)) dL_law_1720 ⟨by show c0 + _ ≤ 601024; omega, by show s0 + _ ≤ 7293034; omega⟩) hP hD hS hA (fun _ => lw_fst) (fun r_3 u_1 H locs q_2 hP hD hS => ?_)
  have hP : PP G (lwW G a v mo ki pr df co bi g9 lr bf tn ln nx ct hv v0 k0 v1 k1 oa of mh m1 m2 m3 m4 m5 ss hi sl tx ne th kn ke le sp wr si on tw dn) H := hP
  have hD : va_D (lo G) (lwW G a v mo ki pr df co bi g9 lr bf tn ln nx ct hv v0 k0 v1 k1 oa of mh m1 m2 m3 m4 m5 ss hi sl tx ne th kn ke le sp wr si on tw dn) := hD
  refine topE (v' := nI (2)) (q_2) ?_
  refine lv_istore (lv' := [(5, .int (nI (2))), (0, .ref bq), (1, .ref (a 0)), (2, .ref mh), (3, .ref oa), (4, .int (nI (i)))]) hx hb dL_law_1723 hl (by decide) rfl (fun ls hl => ?_)
  refine lv_aload_n hx hb dL_law_1725 rfl (lv_at hl 3 rfl) ?_
  refine lv_aload_n hx hb dL_law_1726 rfl (lv_at hl 1 rfl) ?_
  refine lv_iload hx hb dL_law_1727 (lv_at hl 5 rfl) ?_
  refine lv_iconst (v := nI (1)) hx hb dL_law_1729 (by decide) ?_
  refine gAdd (z := nI (i + 1)) hx hb dL_law_1730 (nI_add _ _) ?_
  refine gScr (i := i + 1) (v := nI (0)) hx hb hX hbl hbA hS (by omega) hL9 ha1 dL_law_1731 ?_
  refine kSufI (va_runV (As := [.int (nI (0))]) (rest := []) ⟨hx, hb, hml, hown, hts⟩ (c_X9_loadState_20 mh m1 m2 m3 m4 m5 ss hi sl tx ne th kn ke le sp wr si on tw dn (hke) (hk9) (PP_r hP) ((pre_D (va_D_swap hD)).weaken (fun _ _ _ h => hLo _ h))) (cwV 1 hts gL_law_X9_loadState rfl rfl rfl (by decide +kernel) ⟨(Nat.le_of_ble_eq_true rfl), (Nat.le_of_ble_eq_true rfl)⟩) (preV hC hS hLo (PP_r hP) (ci := 8) (q0 := 0) rfl rfl) rfl rfl hl.1 rfl (lv_room (Nat.le_of_ble_eq_true rfl)) dL_law_1732 ⟨by show c0 + _ ≤ 601024; omega, by show s0 + _ ≤ 7293034; omega⟩) hP hD hS hA (fun _ => rfl) (fun r_6 u_4 H locs q_5 hP hD hS => ?_)
  have hP : PP G (lwW G a v mo ki pr df co bi g9 lr bf tn ln nx ct hv v0 k0 v1 k1 oa of mh m1 m2 m3 m4 m5 ss hi sl tx ne (nI 2) kn ke le sp wr si on tw dn) H := hP
  have hD : va_D (lo G) (lwW G a v mo ki pr df co bi g9 lr bf tn ln nx ct hv v0 k0 v1 k1 oa of mh m1 m2 m3 m4 m5 ss hi sl tx ne (nI 2) kn ke le sp wr si on tw dn) := hD
  refine topE (v' := nI (0)) (q_5) ?_
  refine lv_istore (lv' := [(6, .int (nI (0))), (5, .int (nI (2))), (0, .ref bq), (1, .ref (a 0)), (2, .ref mh), (3, .ref oa), (4, .int (nI (i)))]) hx hb dL_law_1735 hl (by decide) rfl (fun ls hl => ?_)
  refine lv_aload_n hx hb dL_law_1737 rfl (lv_at hl 4 rfl) ?_
  refine kPi (va_runV (As := []) (rest := []) ⟨hx, hb, hml, hown, hts⟩ (c_X9_thrown mh m1 m2 m3 m4 m5 ss hi sl tx ne (nI (2)) kn ke le sp wr si on tw dn (PP_r hP)) (cwV 0 hts gL_law_X9_thrown rfl rfl rfl (by decide +kernel) ⟨(Nat.le_of_ble_eq_true rfl), (Nat.le_of_ble_eq_true rfl)⟩) (preV hC hS hLo (PP_r hP) (ci := 8) (q0 := 0) rfl rfl) rfl rfl hl.1 rfl (lv_room (Nat.le_of_ble_eq_true rfl)) dL_law_1738 ⟨by show c0 + _ ≤ 601024; omega, by show s0 + _ ≤ 7293034; omega⟩) hS (fun locs hS => ?_)
  refine lv_iload hx hb dL_law_1741 (lv_at hl 1 rfl) ?_
  refine lv_icmp_eq (tgt := 1748) hx hb dL_law_1743 (by decide) (fun c_7 => ?_) (fun c_7 => ?_)
  · have f_8 := c_7
    refine lv_iload hx hb dL_law_1748 (lv_at hl 1 rfl) ?_
    refine lv_if_ne (tgt := 1765) hx hb dL_law_1750 (by decide) (fun c_9 => ?_) (fun c_9 => ?_)
    · have f_10 : ¬ (2 : Int) = (0 : Int) := fun z => c_9 ((c_eq (nI_toInt (n := 2) (by omega)) rfl).mpr z)
      refine lv_goto (tgt := 1768) hx hb dL_law_1765 (by decide) ?_
      exact hk H locs ls hP hD hS (lv_sub hl [2, 3, 4, 5, 6] rfl)
    · have f_11 : (2 : Int) = (0 : Int) := (c_eq (nI_toInt (n := 2) (by omega)) rfl).mp c_9
      exfalso; omega
  · have f_12 := c_7
    exact absurd rfl f_12

set_option maxHeartbeats 4000000 in
set_option maxRecDepth 100000 in
theorem lw_33_ok1 {pg : Program} {l : Launch} {ev : Env} {s : State} {m : MethodId} {below : List Frame} {meth : Method} {c : Code} {Q : State → Prop} {G : GT} {bq L : Nat} {xs : Nat → Int32} (hLK : LK pg l s m meth c bq L xs G) (c0 s0 : Nat) (hroom : c0 + 1 ≤ 601024 ∧ s0 + 6 ≤ 7293034) (a : Nat → Nat) (v : SVT) (mo ki : Nat → Nat) (pr df : Nat → Int) (co : Int32) (bi : Nat) (g9 : Nat → Int32) (lr : Nat) (bf : Nat → Int) (tn : Nat → Nat) (ln nx ct : Nat) (hv : Nat → SVT) (v0 : SVT) (k0 : Nat) (v1 : SVT) (k1 : Nat) (oa : Nat) (of : Nat → Int64) (mh m1 m2 m3 m4 m5 : Nat) (ss hi sl : Nat → Int) (tx : Nat → Nat) (ne : Nat → Int) (th : Int32) (kn ke le : Nat) (sp wr si on tw dn : Int32) (i : Nat) (hi5 : i + 5 ≤ L) (ha1 : xs (i + 1) = nI (1)) (hke : ke ≤ 3) (heq : iI (ss 194) = nI (v.2.2.2.2.2.2.2.1)) {H : Heap} {locs : List Loc} {ls : Array Slot} (hP : PP G (lwW G a v mo ki pr df co bi g9 lr bf tn ln nx ct hv v0 k0 v1 k1 oa of mh m1 m2 m3 m4 m5 ss hi sl tx ne th kn ke le sp wr si on tw dn) H) (hD : va_D (lo G) (lwW G a v mo ki pr df co bi g9 lr bf tn ln nx ct hv v0 k0 v1 k1 oa of mh m1 m2 m3 m4 m5 ss hi sl tx ne th kn ke le sp wr si on tw dn)) (hS : va_S (lo G) s.heap H locs) (hl : lv_has ls 7 [(0, .ref bq), (1, .ref (a 0)), (2, .ref mh), (3, .ref oa), (4, .int (nI (i)))])
    (hk : ∀ (H : Heap) (locs : List Loc) (ls : Array Slot), PP G (lwW G a v mo ki pr df co bi g9 lr bf tn ln nx ct hv v0 k0 v 1 oa (vp_updL of 0 ((nI (v.2.2.2.2.2.2.2.1)).toInt64)) mh m1 m2 m3 m4 m5 ss hi (cpH sl ss (205 * 1) 205) tx ne (nI 0) kn (ke ||| 2) le sp wr si on tw dn) H → va_D (lo G) (lwW G a v mo ki pr df co bi g9 lr bf tn ln nx ct hv v0 k0 v 1 oa (vp_updL of 0 ((nI (v.2.2.2.2.2.2.2.1)).toInt64)) mh m1 m2 m3 m4 m5 ss hi (cpH sl ss (205 * 1) 205) tx ne (nI 0) kn (ke ||| 2) le sp wr si on tw dn) → va_S (lo G) s.heap H locs → lv_has ls 7 [(0, .ref bq), (1, .ref (a 0)), (2, .ref mh), (3, .ref oa), (4, .int (nI (i)))] → W pg l ev room_1 s m #[Value.ref bq] below meth c H locs (c0 + 0) (s0 + 0) Q (F0 m 1768 ls [])) :
    W pg l ev room_1 s m #[Value.ref bq] below meth c H locs c0 s0 Q (F0 m 1656 ls []) := by
  obtain ⟨hx, hb, hml, hown, hts, hX, hbl, hCX, hgB, hfl, hL9⟩ := hLK
  have hC := hCX.1
  have hLo : ∀ q, lo G q → lo G q := fun _ h => h
  have hA : ∀ q, s.heap.size ≤ q → lo G q := fun q h => by show gB G ≤ q; rw [hgB]; exact h
  have hbA : ¬ lo G bq := by show ¬ gB G ≤ bq; rw [hgB]; omega
  refine lv_aload_n hx hb dL_law_1656 rfl (lv_at hl 1 rfl) ?_
  refine lv_aload_n hx hb dL_law_1657 rfl (lv_at hl 0 rfl) ?_
  refine lv_iload hx hb dL_law_1658 (lv_at hl 4 rfl) ?_
  refine lv_iconst (v := nI (1)) hx hb dL_law_1660 (by decide) ?_
  refine gAdd (z := nI (i + 1)) hx hb dL_law_1661 (nI_add _ _) ?_
  refine gScr (i := i + 1) (v := nI (1)) hx hb hX hbl hbA hS (by omega) hL9 ha1 dL_law_1662 ?_
  refine lv_aload_n hx hb dL_law_1663 rfl (lv_at hl 3 rfl) ?_
  refine kPreI (vx_runSW (As := [.ref (a 0), .int (nI (1)), .ref oa]) (rest := []) ⟨hx, hb, hml, hown, hts⟩ (c_L_saveState_s1 a v mo ki pr df co bi g9 lr bf tn ln nx ct hv v0 k0 v1 k1 oa of (PP_l hP) ((pre_D hD).weaken (fun _ _ _ h => hLo _ h))) (vx_cwSW 3 hts gL_law_L_saveState rfl rfl rfl (by decide +kernel) ⟨(Nat.le_of_ble_eq_true rfl), (Nat.le_of_ble_eq_true rfl)⟩) (preS hC hS hLo) rfl rfl hl.1 rfl (lv_room (Nat.le_of_ble_eq_true rfl)) dL_law_1664 ⟨by show c0 + _ ≤ 601024; omega, by show s0 + _ ≤ 7293034; omega⟩) hP hD hS hA (fun _ => lw_fst) (fun r_3 u_1 H locs q_2 hP hD hS => ?_)
  have hP : PP G (lwW G a v mo ki pr df co bi g9 lr bf tn ln nx ct hv v0 k0 v 1 oa (vp_updL of 0 ((nI (v.2.2.2.2.2.2.2.1)).toInt64)) mh m1 m2 m3 m4 m5 ss hi sl tx ne th kn ke le sp wr si on tw dn) H := hP
  have hD : va_D (lo G) (lwW G a v mo ki pr df co bi g9 lr bf tn ln nx ct hv v0 k0 v 1 oa (vp_updL of 0 ((nI (v.2.2.2.2.2.2.2.1)).toInt64)) mh m1 m2 m3 m4 m5 ss hi sl tx ne th kn ke le sp wr si on tw dn) := hD
  refine topE (v' := nI (0)) (q_2) ?_
  refine lv_istore (lv' := [(5, .int (nI (0))), (0, .ref bq), (1, .ref (a 0)), (2, .ref mh), (3, .ref oa), (4, .int (nI (i)))]) hx hb dL_law_1667 hl (by decide) rfl (fun ls hl => ?_)
  refine lv_aload_n hx hb dL_law_1669 rfl (lv_at hl 3 rfl) ?_
  refine lv_aload_n hx hb dL_law_1670 rfl (lv_at hl 1 rfl) ?_
  refine lv_iload hx hb dL_law_1671 (lv_at hl 5 rfl) ?_
  refine lv_iconst (v := nI (1)) hx hb dL_law_1673 (by decide) ?_
  refine gAdd (z := nI (i + 1)) hx hb dL_law_1674 (nI_add _ _) ?_
  refine gScr (i := i + 1) (v := nI (1)) hx hb hX hbl hbA hS (by omega) hL9 ha1 dL_law_1675 ?_
  refine kSufI (va_runV (As := [.int (nI (1))]) (rest := []) ⟨hx, hb, hml, hown, hts⟩ (c_X9_saveState_1s mh m1 m2 m3 m4 m5 ss hi sl tx ne th kn ke le sp wr si on tw dn (hke) (PP_r hP) ((pre_D (va_D_swap hD)).weaken (fun _ _ _ h => hLo _ h))) (cwV 1 hts gL_law_X9_saveState rfl rfl rfl (by decide +kernel) ⟨(Nat.le_of_ble_eq_true rfl), (Nat.le_of_ble_eq_true rfl)⟩) (preV hC hS hLo (PP_r hP) (ci := 8) (q0 := 0) rfl rfl) rfl rfl hl.1 rfl (lv_room (Nat.le_of_ble_eq_true rfl)) dL_law_1676 ⟨by show c0 + _ ≤ 601024; omega, by show s0 + _ ≤ 7293034; omega⟩) hP hD hS hA (fun _ => rfl) (fun r_6 u_4 H locs q_5 hP hD hS => ?_)
  have hP : PP G (lwW G a v mo ki pr df co bi g9 lr bf tn ln nx ct hv v0 k0 v 1 oa (vp_updL of 0 ((nI (v.2.2.2.2.2.2.2.1)).toInt64)) mh m1 m2 m3 m4 m5 ss hi (cpH sl ss (205 * 1) 205) tx ne (nI 0) kn (ke ||| 2) le sp wr si on tw dn) H := hP
  have hD : va_D (lo G) (lwW G a v mo ki pr df co bi g9 lr bf tn ln nx ct hv v0 k0 v 1 oa (vp_updL of 0 ((nI (v.2.2.2.2.2.2.2.1)).toInt64)) mh m1 m2 m3 m4 m5 ss hi (cpH sl ss (205 * 1) 205) tx ne (nI 0) kn (ke ||| 2) le sp wr si on tw dn) := hD
  refine topE (v' := nI (v.2.2.2.2.2.2.2.1)) (q_5.trans (heq)) ?_
  refine lv_istore (lv' := [(6, .int (nI (v.2.2.2.2.2.2.2.1))), (5, .int (nI (0))), (0, .ref bq), (1, .ref (a 0)), (2, .ref mh), (3, .ref oa), (4, .int (nI (i)))]) hx hb dL_law_1679 hl (by decide) rfl (fun ls hl => ?_)
  refine lv_aload_n hx hb dL_law_1681 rfl (lv_at hl 4 rfl) ?_
  refine kPi (va_runV (As := []) (rest := []) ⟨hx, hb, hml, hown, hts⟩ (c_X9_thrown mh m1 m2 m3 m4 m5 ss hi (cpH sl ss (205 * 1) 205) tx ne (nI (0)) kn (ke ||| 2) le sp wr si on tw dn (PP_r hP)) (cwV 0 hts gL_law_X9_thrown rfl rfl rfl (by decide +kernel) ⟨(Nat.le_of_ble_eq_true rfl), (Nat.le_of_ble_eq_true rfl)⟩) (preV hC hS hLo (PP_r hP) (ci := 8) (q0 := 0) rfl rfl) rfl rfl hl.1 rfl (lv_room (Nat.le_of_ble_eq_true rfl)) dL_law_1682 ⟨by show c0 + _ ≤ 601024; omega, by show s0 + _ ≤ 7293034; omega⟩) hS (fun locs hS => ?_)
  refine lv_iload hx hb dL_law_1685 (lv_at hl 1 rfl) ?_
  refine lv_icmp_eq (tgt := 1692) hx hb dL_law_1687 (by decide) (fun c_7 => ?_) (fun c_7 => ?_)
  · have f_8 := c_7
    refine lv_iload hx hb dL_law_1692 (lv_at hl 1 rfl) ?_
    refine lv_if_ne (tgt := 1709) hx hb dL_law_1694 (by decide) (fun c_9 => ?_) (fun c_9 => ?_)
    · have f_10 : ¬ (0 : Int) = (0 : Int) := fun z => c_9 ((c_eq (nI_toInt (n := 0) (by omega)) rfl).mpr z)
      exfalso; omega
    · have f_11 : (0 : Int) = (0 : Int) := (c_eq (nI_toInt (n := 0) (by omega)) rfl).mp c_9
      refine lv_aload_n hx hb dL_law_1697 rfl (lv_at hl 5 rfl) ?_
      refine lv_iconst (v := nI (0)) hx hb dL_law_1698 (by decide) ?_
      refine gLald (j := 0) hx hb hC.K (PP_r (PP_l hP)) 0 4 rfl rfl rfl (by decide) (by decide) dL_law_1699 ?_
      refine W.eq (g2 := F0 m 1700 ls [.long ((nI (v.2.2.2.2.2.2.2.1)).toInt64)]) rfl ?_
      refine lv_iload hx hb dL_law_1700 (lv_at hl 0 rfl) ?_
      refine lv_i2l (v := (nI (v.2.2.2.2.2.2.2.1)).toInt64) hx hb dL_law_1702 (rfl) ?_
      refine W.lcmp hx hb dL_law_1703 ?_
      refine topE (v' := nI (0)) (lg_self _) ?_
      refine lv_if_eq (tgt := 1709) hx hb dL_law_1704 (by decide) (fun c_12 => ?_) (fun c_12 => ?_)
      · have f_13 : (0 : Int) = (0 : Int) := (c_eq (nI_toInt (n := 0) (by omega)) rfl).mp c_12
        refine lv_goto (tgt := 1768) hx hb dL_law_1709 (by decide) ?_
        exact hk H locs ls hP hD hS (lv_sub hl [2, 3, 4, 5, 6] rfl)
      · have f_14 : ¬ (0 : Int) = (0 : Int) := fun z => c_12 ((c_eq (nI_toInt (n := 0) (by omega)) rfl).mpr z)
        exfalso; omega
  · have f_15 := c_7
    exact absurd rfl f_15

set_option maxHeartbeats 4000000 in
set_option maxRecDepth 100000 in
theorem lw_34_ok1 {pg : Program} {l : Launch} {ev : Env} {s : State} {m : MethodId} {below : List Frame} {meth : Method} {c : Code} {Q : State → Prop} {G : GT} {bq L : Nat} {xs : Nat → Int32} (hLK : LK pg l s m meth c bq L xs G) (c0 s0 : Nat) (hroom : c0 + 1 ≤ 601024 ∧ s0 + 6 ≤ 7293034) (a : Nat → Nat) (v : SVT) (mo ki : Nat → Nat) (pr df : Nat → Int) (co : Int32) (bi : Nat) (g9 : Nat → Int32) (lr : Nat) (bf : Nat → Int) (tn : Nat → Nat) (ln nx ct : Nat) (hv : Nat → SVT) (v0 : SVT) (k0 : Nat) (v1 : SVT) (k1 : Nat) (oa : Nat) (of : Nat → Int64) (mh m1 m2 m3 m4 m5 : Nat) (ss hi sl : Nat → Int) (tx : Nat → Nat) (ne : Nat → Int) (th : Int32) (kn ke le : Nat) (sp wr si on tw dn : Int32) (i : Nat) (hi5 : i + 5 ≤ L) (ha1 : xs (i + 1) = nI (1)) (hnx : nx < 6) (hct : ct ≤ 6) (hk3 : k1 = 1) (hkn : kn ≤ 6) (hke : ke ≤ 3) (hk9 : ke / 2 % 2 = 1) (heq : iI (cpS ss sl (205 * 1) 205 194) = nI (v1.2.2.2.2.2.2.2.1)) {H : Heap} {locs : List Loc} {ls : Array Slot} (hP : PP G (lwW G a v mo ki pr df co bi g9 lr bf tn ln nx ct hv v0 k0 v1 k1 oa of mh m1 m2 m3 m4 m5 ss hi sl tx ne th kn ke le sp wr si on tw dn) H) (hD : va_D (lo G) (lwW G a v mo ki pr df co bi g9 lr bf tn ln nx ct hv v0 k0 v1 k1 oa of mh m1 m2 m3 m4 m5 ss hi sl tx ne th kn ke le sp wr si on tw dn)) (hS : va_S (lo G) s.heap H locs) (hl : lv_has ls 7 [(0, .ref bq), (1, .ref (a 0)), (2, .ref mh), (3, .ref oa), (4, .int (nI (i)))])
    (hk : ∀ (H : Heap) (locs : List Loc) (ls : Array Slot), PP G (lwW G a v1 mo ki pr df co bi g9 lr bf tn ln ((nx + 1) % 6) (min (ct + 1) 6) (va_up hv nx v) v0 k0 v1 k1 oa (vp_updL of 0 ((nI (v1.2.2.2.2.2.2.2.1)).toInt64)) mh m1 m2 m3 m4 m5 (cpS ss sl (205 * 1) 205) (recH hi ss kn) sl tx ne (nI 0) (min (kn + 1) 6) ke le sp wr si on tw dn) H → va_D (lo G) (lwW G a v1 mo ki pr df co bi g9 lr bf tn ln ((nx + 1) % 6) (min (ct + 1) 6) (va_up hv nx v) v0 k0 v1 k1 oa (vp_updL of 0 ((nI (v1.2.2.2.2.2.2.2.1)).toInt64)) mh m1 m2 m3 m4 m5 (cpS ss sl (205 * 1) 205) (recH hi ss kn) sl tx ne (nI 0) (min (kn + 1) 6) ke le sp wr si on tw dn) → va_S (lo G) s.heap H locs → lv_has ls 7 [(0, .ref bq), (1, .ref (a 0)), (2, .ref mh), (3, .ref oa), (4, .int (nI (i)))] → W pg l ev room_1 s m #[Value.ref bq] below meth c H locs (c0 + 0) (s0 + 0) Q (F0 m 1768 ls [])) :
    W pg l ev room_1 s m #[Value.ref bq] below meth c H locs c0 s0 Q (F0 m 1712 ls []) := by
  obtain ⟨hx, hb, hml, hown, hts, hX, hbl, hCX, hgB, hfl, hL9⟩ := hLK
  have hC := hCX.1
  have hLo : ∀ q, lo G q → lo G q := fun _ h => h
  have hA : ∀ q, s.heap.size ≤ q → lo G q := fun q h => by show gB G ≤ q; rw [hgB]; exact h
  have hbA : ¬ lo G bq := by show ¬ gB G ≤ bq; rw [hgB]; omega
  refine lv_aload_n hx hb dL_law_1712 rfl (lv_at hl 1 rfl) ?_
  refine lv_aload_n hx hb dL_law_1713 rfl (lv_at hl 0 rfl) ?_
  refine lv_iload hx hb dL_law_1714 (lv_at hl 4 rfl) ?_
  refine lv_iconst (v := nI (1)) hx hb dL_law_1716 (by decide) ?_
  refine gAdd (z := nI (i + 1)) hx hb dL_law_1717 (nI_add _ _) ?_
  refine gScr (i := i + 1) (v := nI (1)) hx hb hX hbl hbA hS (by omega) hL9 ha1 dL_law_1718 ?_
  refine lv_aload_n hx hb dL_law_1719 rfl (lv_at hl 3 rfl) ?_
  refine kPreI (vx_runSW (As := [.ref (a 0), .int (nI (1)), .ref oa]) (rest := []) ⟨hx, hb, hml, hown, hts⟩ (c_L_loadState_s1 a v mo ki pr df co bi g9 lr bf tn ln nx ct hv v0 k0 v1 k1 oa of (hnx) (hct) (hk3) (PP_l hP) ((pre_D hD).weaken (fun _ _ _ h => hLo _ h))) (vx_cwSW 3 hts gL_law_L_loadState rfl rfl rfl (by decide +kernel) ⟨(Nat.le_of_ble_eq_true rfl), (Nat.le_of_ble_eq_true rfl)⟩) (preS hC hS hLo) rfl rfl hl.1 rfl (lv_room (Nat.le_of_ble_eq_true rfl)) dL_law_1720 ⟨by show c0 + _ ≤ 601024; omega, by show s0 + _ ≤ 7293034; omega⟩) hP hD hS hA (fun _ => lw_fst) (fun r_3 u_1 H locs q_2 hP hD hS => ?_)
  have hP : PP G (lwW G a v1 mo ki pr df co bi g9 lr bf tn ln ((nx + 1) % 6) (min (ct + 1) 6) (va_up hv nx v) v0 k0 v1 k1 oa (vp_updL of 0 ((nI (v1.2.2.2.2.2.2.2.1)).toInt64)) mh m1 m2 m3 m4 m5 ss hi sl tx ne th kn ke le sp wr si on tw dn) H := hP
  have hD : va_D (lo G) (lwW G a v1 mo ki pr df co bi g9 lr bf tn ln ((nx + 1) % 6) (min (ct + 1) 6) (va_up hv nx v) v0 k0 v1 k1 oa (vp_updL of 0 ((nI (v1.2.2.2.2.2.2.2.1)).toInt64)) mh m1 m2 m3 m4 m5 ss hi sl tx ne th kn ke le sp wr si on tw dn) := hD
  refine topE (v' := nI (0)) (q_2) ?_
  refine lv_istore (lv' := [(5, .int (nI (0))), (0, .ref bq), (1, .ref (a 0)), (2, .ref mh), (3, .ref oa), (4, .int (nI (i)))]) hx hb dL_law_1723 hl (by decide) rfl (fun ls hl => ?_)
  refine lv_aload_n hx hb dL_law_1725 rfl (lv_at hl 3 rfl) ?_
  refine lv_aload_n hx hb dL_law_1726 rfl (lv_at hl 1 rfl) ?_
  refine lv_iload hx hb dL_law_1727 (lv_at hl 5 rfl) ?_
  refine lv_iconst (v := nI (1)) hx hb dL_law_1729 (by decide) ?_
  refine gAdd (z := nI (i + 1)) hx hb dL_law_1730 (nI_add _ _) ?_
  refine gScr (i := i + 1) (v := nI (1)) hx hb hX hbl hbA hS (by omega) hL9 ha1 dL_law_1731 ?_
  refine kSufI (va_runV (As := [.int (nI (1))]) (rest := []) ⟨hx, hb, hml, hown, hts⟩ (c_X9_loadState_1s mh m1 m2 m3 m4 m5 ss hi sl tx ne th kn ke le sp wr si on tw dn (hkn) (hke) (hk9) (PP_r hP) ((pre_D (va_D_swap hD)).weaken (fun _ _ _ h => hLo _ h))) (cwV 1 hts gL_law_X9_loadState rfl rfl rfl (by decide +kernel) ⟨(Nat.le_of_ble_eq_true rfl), (Nat.le_of_ble_eq_true rfl)⟩) (preV hC hS hLo (PP_r hP) (ci := 8) (q0 := 0) rfl rfl) rfl rfl hl.1 rfl (lv_room (Nat.le_of_ble_eq_true rfl)) dL_law_1732 ⟨by show c0 + _ ≤ 601024; omega, by show s0 + _ ≤ 7293034; omega⟩) hP hD hS hA (fun _ => rfl) (fun r_6 u_4 H locs q_5 hP hD hS => ?_)
  have hP : PP G (lwW G a v1 mo ki pr df co bi g9 lr bf tn ln ((nx + 1) % 6) (min (ct + 1) 6) (va_up hv nx v) v0 k0 v1 k1 oa (vp_updL of 0 ((nI (v1.2.2.2.2.2.2.2.1)).toInt64)) mh m1 m2 m3 m4 m5 (cpS ss sl (205 * 1) 205) (recH hi ss kn) sl tx ne (nI 0) (min (kn + 1) 6) ke le sp wr si on tw dn) H := hP
  have hD : va_D (lo G) (lwW G a v1 mo ki pr df co bi g9 lr bf tn ln ((nx + 1) % 6) (min (ct + 1) 6) (va_up hv nx v) v0 k0 v1 k1 oa (vp_updL of 0 ((nI (v1.2.2.2.2.2.2.2.1)).toInt64)) mh m1 m2 m3 m4 m5 (cpS ss sl (205 * 1) 205) (recH hi ss kn) sl tx ne (nI 0) (min (kn + 1) 6) ke le sp wr si on tw dn) := hD
  refine topE (v' := nI (v1.2.2.2.2.2.2.2.1)) (q_5.trans (heq)) ?_
  refine lv_istore (lv' := [(6, .int (nI (v1.2.2.2.2.2.2.2.1))), (5, .int (nI (0))), (0, .ref bq), (1, .ref (a 0)), (2, .ref mh), (3, .ref oa), (4, .int (nI (i)))]) hx hb dL_law_1735 hl (by decide) rfl (fun ls hl => ?_)
  refine lv_aload_n hx hb dL_law_1737 rfl (lv_at hl 4 rfl) ?_
  refine kPi (va_runV (As := []) (rest := []) ⟨hx, hb, hml, hown, hts⟩ (c_X9_thrown mh m1 m2 m3 m4 m5 (cpS ss sl (205 * 1) 205) (recH hi ss kn) sl tx ne (nI (0)) (min (kn + 1) 6) ke le sp wr si on tw dn (PP_r hP)) (cwV 0 hts gL_law_X9_thrown rfl rfl rfl (by decide +kernel) ⟨(Nat.le_of_ble_eq_true rfl), (Nat.le_of_ble_eq_true rfl)⟩) (preV hC hS hLo (PP_r hP) (ci := 8) (q0 := 0) rfl rfl) rfl rfl hl.1 rfl (lv_room (Nat.le_of_ble_eq_true rfl)) dL_law_1738 ⟨by show c0 + _ ≤ 601024; omega, by show s0 + _ ≤ 7293034; omega⟩) hS (fun locs hS => ?_)
  refine lv_iload hx hb dL_law_1741 (lv_at hl 1 rfl) ?_
  refine lv_icmp_eq (tgt := 1748) hx hb dL_law_1743 (by decide) (fun c_7 => ?_) (fun c_7 => ?_)
  · have f_8 := c_7
    refine lv_iload hx hb dL_law_1748 (lv_at hl 1 rfl) ?_
    refine lv_if_ne (tgt := 1765) hx hb dL_law_1750 (by decide) (fun c_9 => ?_) (fun c_9 => ?_)
    · have f_10 : ¬ (0 : Int) = (0 : Int) := fun z => c_9 ((c_eq (nI_toInt (n := 0) (by omega)) rfl).mpr z)
      exfalso; omega
    · have f_11 : (0 : Int) = (0 : Int) := (c_eq (nI_toInt (n := 0) (by omega)) rfl).mp c_9
      refine lv_aload_n hx hb dL_law_1753 rfl (lv_at hl 5 rfl) ?_
      refine lv_iconst (v := nI (0)) hx hb dL_law_1754 (by decide) ?_
      refine gLald (j := 0) hx hb hC.K (PP_r (PP_l hP)) 0 4 rfl rfl rfl (by decide) (by decide) dL_law_1755 ?_
      refine W.eq (g2 := F0 m 1756 ls [.long ((nI (v1.2.2.2.2.2.2.2.1)).toInt64)]) rfl ?_
      refine lv_iload hx hb dL_law_1756 (lv_at hl 0 rfl) ?_
      refine lv_i2l (v := (nI (v1.2.2.2.2.2.2.2.1)).toInt64) hx hb dL_law_1758 (rfl) ?_
      refine W.lcmp hx hb dL_law_1759 ?_
      refine topE (v' := nI (0)) (lg_self _) ?_
      refine lv_if_eq (tgt := 1765) hx hb dL_law_1760 (by decide) (fun c_12 => ?_) (fun c_12 => ?_)
      · have f_13 : (0 : Int) = (0 : Int) := (c_eq (nI_toInt (n := 0) (by omega)) rfl).mp c_12
        refine lv_goto (tgt := 1768) hx hb dL_law_1765 (by decide) ?_
        exact hk H locs ls hP hD hS (lv_sub hl [2, 3, 4, 5, 6] rfl)
      · have f_14 : ¬ (0 : Int) = (0 : Int) := fun z => c_12 ((c_eq (nI_toInt (n := 0) (by omega)) rfl).mpr z)
        exfalso; omega
  · have f_15 := c_7
    exact absurd rfl f_15

set_option maxHeartbeats 4000000 in
set_option maxRecDepth 100000 in
theorem lw_34_x21 {pg : Program} {l : Launch} {ev : Env} {s : State} {m : MethodId} {below : List Frame} {meth : Method} {c : Code} {Q : State → Prop} {G : GT} {bq L : Nat} {xs : Nat → Int32} (hLK : LK pg l s m meth c bq L xs G) (c0 s0 : Nat) (hroom : c0 + 1 ≤ 601024 ∧ s0 + 6 ≤ 7293034) (a : Nat → Nat) (v : SVT) (mo ki : Nat → Nat) (pr df : Nat → Int) (co : Int32) (bi : Nat) (g9 : Nat → Int32) (lr : Nat) (bf : Nat → Int) (tn : Nat → Nat) (ln nx ct : Nat) (hv : Nat → SVT) (v0 : SVT) (k0 : Nat) (v1 : SVT) (k1 : Nat) (oa : Nat) (of : Nat → Int64) (mh m1 m2 m3 m4 m5 : Nat) (ss hi sl : Nat → Int) (tx : Nat → Nat) (ne : Nat → Int) (th : Int32) (kn ke le : Nat) (sp wr si on tw dn : Int32) (i : Nat) (hi5 : i + 5 ≤ L) (ha1 : xs (i + 1) = nI (1)) (hk0 : k1 = 0) (hke : ke ≤ 3) (hk9 : ¬ ke / 2 % 2 = 1) {H : Heap} {locs : List Loc} {ls : Array Slot} (hP : PP G (lwW G a v mo ki pr df co bi g9 lr bf tn ln nx ct hv v0 k0 v1 k1 oa of mh m1 m2 m3 m4 m5 ss hi sl tx ne th kn ke le sp wr si on tw dn) H) (hD : va_D (lo G) (lwW G a v mo ki pr df co bi g9 lr bf tn ln nx ct hv v0 k0 v1 k1 oa of mh m1 m2 m3 m4 m5 ss hi sl tx ne th kn ke le sp wr si on tw dn)) (hS : va_S (lo G) s.heap H locs) (hl : lv_has ls 7 [(0, .ref bq), (1, .ref (a 0)), (2, .ref mh), (3, .ref oa), (4, .int (nI (i)))])
    (hk : ∀ (H : Heap) (locs : List Loc) (ls : Array Slot), PP G (lwW G a v mo ki pr df co bi g9 lr bf tn ln nx ct hv v0 k0 v1 k1 oa of mh m1 m2 m3 m4 m5 ss hi sl tx ne (nI 2) kn ke le sp wr si on tw dn) H → va_D (lo G) (lwW G a v mo ki pr df co bi g9 lr bf tn ln nx ct hv v0 k0 v1 k1 oa of mh m1 m2 m3 m4 m5 ss hi sl tx ne (nI 2) kn ke le sp wr si on tw dn) → va_S (lo G) s.heap H locs → lv_has ls 7 [(0, .ref bq), (1, .ref (a 0)), (2, .ref mh), (3, .ref oa), (4, .int (nI (i)))] → W pg l ev room_1 s m #[Value.ref bq] below meth c H locs (c0 + 1) (s0 + 6) Q (F0 m 1768 ls [])) :
    W pg l ev room_1 s m #[Value.ref bq] below meth c H locs c0 s0 Q (F0 m 1712 ls []) := by
  obtain ⟨hx, hb, hml, hown, hts, hX, hbl, hCX, hgB, hfl, hL9⟩ := hLK
  have hC := hCX.1
  have hLo : ∀ q, lo G q → lo G q := fun _ h => h
  have hA : ∀ q, s.heap.size ≤ q → lo G q := fun q h => by show gB G ≤ q; rw [hgB]; exact h
  have hbA : ¬ lo G bq := by show ¬ gB G ≤ bq; rw [hgB]; omega
  refine lv_aload_n hx hb dL_law_1712 rfl (lv_at hl 1 rfl) ?_
  refine lv_aload_n hx hb dL_law_1713 rfl (lv_at hl 0 rfl) ?_
  refine lv_iload hx hb dL_law_1714 (lv_at hl 4 rfl) ?_
  refine lv_iconst (v := nI (1)) hx hb dL_law_1716 (by decide) ?_
  refine gAdd (z := nI (i + 1)) hx hb dL_law_1717 (nI_add _ _) ?_
  refine gScr (i := i + 1) (v := nI (1)) hx hb hX hbl hbA hS (by omega) hL9 ha1 dL_law_1718 ?_
  refine lv_aload_n hx hb dL_law_1719 rfl (lv_at hl 3 rfl) ?_
  refine kPreI (vx_runSW (As := [.ref (a 0), .int (nI (1)), .ref oa]) (rest := []) ⟨hx, hb, hml, hown, hts⟩ (c_L_loadState_2s1 a v mo ki pr df co bi g9 lr bf tn ln nx ct hv v0 k0 v1 k1 oa of (hk0) hfl (PP_l hP) ((pre_D hD).weaken (fun _ _ _ h => hLo _ h))) (vx_cwSW 3 hts gL_law_L_loadState rfl rfl rfl (by decide +kernel) ⟨(Nat.le_of_ble_eq_true rfl), (Nat.le_of_ble_eq_true rfl)⟩) (preSX hCX hS hLo) rfl rfl hl.1 rfl (lv_room (Nat.le_of_ble_eq_true rfl)) dL_law_1720 ⟨by show c0 + _ ≤ 601024; omega, by show s0 + _ ≤ 7293034; omega⟩) hP hD hS hA (fun _ => lw_fst) (fun r_3 u_1 H locs q_2 hP hD hS => ?_)
  have hP : PP G (lwW G a v mo ki pr df co bi g9 lr bf tn ln nx ct hv v0 k0 v1 k1 oa of mh m1 m2 m3 m4 m5 ss hi sl tx ne th kn ke le sp wr si on tw dn) H := hP
  have hD : va_D (lo G) (lwW G a v mo ki pr df co bi g9 lr bf tn ln nx ct hv v0 k0 v1 k1 oa of mh m1 m2 m3 m4 m5 ss hi sl tx ne th kn ke le sp wr si on tw dn) := hD
  refine topE (v' := nI (2)) (q_2) ?_
  refine lv_istore (lv' := [(5, .int (nI (2))), (0, .ref bq), (1, .ref (a 0)), (2, .ref mh), (3, .ref oa), (4, .int (nI (i)))]) hx hb dL_law_1723 hl (by decide) rfl (fun ls hl => ?_)
  refine lv_aload_n hx hb dL_law_1725 rfl (lv_at hl 3 rfl) ?_
  refine lv_aload_n hx hb dL_law_1726 rfl (lv_at hl 1 rfl) ?_
  refine lv_iload hx hb dL_law_1727 (lv_at hl 5 rfl) ?_
  refine lv_iconst (v := nI (1)) hx hb dL_law_1729 (by decide) ?_
  refine gAdd (z := nI (i + 1)) hx hb dL_law_1730 (nI_add _ _) ?_
  refine gScr (i := i + 1) (v := nI (1)) hx hb hX hbl hbA hS (by omega) hL9 ha1 dL_law_1731 ?_
  refine kSufI (va_runV (As := [.int (nI (1))]) (rest := []) ⟨hx, hb, hml, hown, hts⟩ (c_X9_loadState_21 mh m1 m2 m3 m4 m5 ss hi sl tx ne th kn ke le sp wr si on tw dn (hke) (hk9) (PP_r hP) ((pre_D (va_D_swap hD)).weaken (fun _ _ _ h => hLo _ h))) (cwV 1 hts gL_law_X9_loadState rfl rfl rfl (by decide +kernel) ⟨(Nat.le_of_ble_eq_true rfl), (Nat.le_of_ble_eq_true rfl)⟩) (preV hC hS hLo (PP_r hP) (ci := 8) (q0 := 0) rfl rfl) rfl rfl hl.1 rfl (lv_room (Nat.le_of_ble_eq_true rfl)) dL_law_1732 ⟨by show c0 + _ ≤ 601024; omega, by show s0 + _ ≤ 7293034; omega⟩) hP hD hS hA (fun _ => rfl) (fun r_6 u_4 H locs q_5 hP hD hS => ?_)
  have hP : PP G (lwW G a v mo ki pr df co bi g9 lr bf tn ln nx ct hv v0 k0 v1 k1 oa of mh m1 m2 m3 m4 m5 ss hi sl tx ne (nI 2) kn ke le sp wr si on tw dn) H := hP
  have hD : va_D (lo G) (lwW G a v mo ki pr df co bi g9 lr bf tn ln nx ct hv v0 k0 v1 k1 oa of mh m1 m2 m3 m4 m5 ss hi sl tx ne (nI 2) kn ke le sp wr si on tw dn) := hD
  refine topE (v' := nI (0)) (q_5) ?_
  refine lv_istore (lv' := [(6, .int (nI (0))), (5, .int (nI (2))), (0, .ref bq), (1, .ref (a 0)), (2, .ref mh), (3, .ref oa), (4, .int (nI (i)))]) hx hb dL_law_1735 hl (by decide) rfl (fun ls hl => ?_)
  refine lv_aload_n hx hb dL_law_1737 rfl (lv_at hl 4 rfl) ?_
  refine kPi (va_runV (As := []) (rest := []) ⟨hx, hb, hml, hown, hts⟩ (c_X9_thrown mh m1 m2 m3 m4 m5 ss hi sl tx ne (nI (2)) kn ke le sp wr si on tw dn (PP_r hP)) (cwV 0 hts gL_law_X9_thrown rfl rfl rfl (by decide +kernel) ⟨(Nat.le_of_ble_eq_true rfl), (Nat.le_of_ble_eq_true rfl)⟩) (preV hC hS hLo (PP_r hP) (ci := 8) (q0 := 0) rfl rfl) rfl rfl hl.1 rfl (lv_room (Nat.le_of_ble_eq_true rfl)) dL_law_1738 ⟨by show c0 + _ ≤ 601024; omega, by show s0 + _ ≤ 7293034; omega⟩) hS (fun locs hS => ?_)
  refine lv_iload hx hb dL_law_1741 (lv_at hl 1 rfl) ?_
  refine lv_icmp_eq (tgt := 1748) hx hb dL_law_1743 (by decide) (fun c_7 => ?_) (fun c_7 => ?_)
  · have f_8 := c_7
    refine lv_iload hx hb dL_law_1748 (lv_at hl 1 rfl) ?_
    refine lv_if_ne (tgt := 1765) hx hb dL_law_1750 (by decide) (fun c_9 => ?_) (fun c_9 => ?_)
    · have f_10 : ¬ (2 : Int) = (0 : Int) := fun z => c_9 ((c_eq (nI_toInt (n := 2) (by omega)) rfl).mpr z)
      refine lv_goto (tgt := 1768) hx hb dL_law_1765 (by decide) ?_
      exact hk H locs ls hP hD hS (lv_sub hl [2, 3, 4, 5, 6] rfl)
    · have f_11 : (2 : Int) = (0 : Int) := (c_eq (nI_toInt (n := 2) (by omega)) rfl).mp c_9
      exfalso; omega
  · have f_12 := c_7
    exact absurd rfl f_12

set_option maxHeartbeats 4000000 in
set_option maxRecDepth 100000 in
theorem lw_33_x1 {pg : Program} {l : Launch} {ev : Env} {s : State} {m : MethodId} {below : List Frame} {meth : Method} {c : Code} {Q : State → Prop} {G : GT} {bq L : Nat} {xs : Nat → Int32} (hLK : LK pg l s m meth c bq L xs G) (c0 s0 : Nat) (hroom : c0 + 1 ≤ 601024 ∧ s0 + 6 ≤ 7293034) (a : Nat → Nat) (v : SVT) (mo ki : Nat → Nat) (pr df : Nat → Int) (co : Int32) (bi : Nat) (g9 : Nat → Int32) (lr : Nat) (bf : Nat → Int) (tn : Nat → Nat) (ln nx ct : Nat) (hv : Nat → SVT) (v0 : SVT) (k0 : Nat) (v1 : SVT) (k1 : Nat) (oa : Nat) (of : Nat → Int64) (mh m1 m2 m3 m4 m5 : Nat) (ss hi sl : Nat → Int) (tx : Nat → Nat) (ne : Nat → Int) (th : Int32) (kn ke le : Nat) (sp wr si on tw dn : Int32) (i : Nat) (p : Int32) (hi5 : i + 5 ≤ L) (ha1 : xs (i + 1) = p) (hbad : p.toInt < 0 ∨ 2 ≤ p.toInt) {H : Heap} {locs : List Loc} {ls : Array Slot} (hP : PP G (lwW G a v mo ki pr df co bi g9 lr bf tn ln nx ct hv v0 k0 v1 k1 oa of mh m1 m2 m3 m4 m5 ss hi sl tx ne th kn ke le sp wr si on tw dn) H) (hD : va_D (lo G) (lwW G a v mo ki pr df co bi g9 lr bf tn ln nx ct hv v0 k0 v1 k1 oa of mh m1 m2 m3 m4 m5 ss hi sl tx ne th kn ke le sp wr si on tw dn)) (hS : va_S (lo G) s.heap H locs) (hl : lv_has ls 7 [(0, .ref bq), (1, .ref (a 0)), (2, .ref mh), (3, .ref oa), (4, .int (nI (i)))])
    (hk : ∀ (H : Heap) (locs : List Loc) (ls : Array Slot), PP G (lwW G a v mo ki pr df co bi g9 lr bf tn ln nx ct hv v0 k0 v1 k1 oa of mh m1 m2 m3 m4 m5 ss hi sl tx ne (nI 1) kn ke le sp wr si on tw dn) H → va_D (lo G) (lwW G a v mo ki pr df co bi g9 lr bf tn ln nx ct hv v0 k0 v1 k1 oa of mh m1 m2 m3 m4 m5 ss hi sl tx ne (nI 1) kn ke le sp wr si on tw dn) → va_S (lo G) s.heap H locs → lv_has ls 7 [(0, .ref bq), (1, .ref (a 0)), (2, .ref mh), (3, .ref oa), (4, .int (nI (i)))] → W pg l ev room_1 s m #[Value.ref bq] below meth c H locs (c0 + 1) (s0 + 6) Q (F0 m 1768 ls [])) :
    W pg l ev room_1 s m #[Value.ref bq] below meth c H locs c0 s0 Q (F0 m 1656 ls []) := by
  obtain ⟨hx, hb, hml, hown, hts, hX, hbl, hCX, hgB, hfl, hL9⟩ := hLK
  have hC := hCX.1
  have hLo : ∀ q, lo G q → lo G q := fun _ h => h
  have hA : ∀ q, s.heap.size ≤ q → lo G q := fun q h => by show gB G ≤ q; rw [hgB]; exact h
  have hbA : ¬ lo G bq := by show ¬ gB G ≤ bq; rw [hgB]; omega
  refine lv_aload_n hx hb dL_law_1656 rfl (lv_at hl 1 rfl) ?_
  refine lv_aload_n hx hb dL_law_1657 rfl (lv_at hl 0 rfl) ?_
  refine lv_iload hx hb dL_law_1658 (lv_at hl 4 rfl) ?_
  refine lv_iconst (v := nI (1)) hx hb dL_law_1660 (by decide) ?_
  refine gAdd (z := nI (i + 1)) hx hb dL_law_1661 (nI_add _ _) ?_
  refine gScr (i := i + 1) (v := p) hx hb hX hbl hbA hS (by omega) hL9 ha1 dL_law_1662 ?_
  refine lv_aload_n hx hb dL_law_1663 rfl (lv_at hl 3 rfl) ?_
  refine kPreI (vx_runSW (As := [.ref (a 0), .int (p), .ref oa]) (rest := []) ⟨hx, hb, hml, hown, hts⟩ (c_L_saveState_1 a v mo ki pr df co bi g9 lr bf tn ln nx ct hv v0 k0 v1 k1 oa of p (hbad) hfl (PP_l hP) ((pre_D hD).weaken (fun _ _ _ h => hLo _ h))) (vx_cwSW 3 hts gL_law_L_saveState rfl rfl rfl (by decide +kernel) ⟨(Nat.le_of_ble_eq_true rfl), (Nat.le_of_ble_eq_true rfl)⟩) (preSX hCX hS hLo) rfl rfl hl.1 rfl (lv_room (Nat.le_of_ble_eq_true rfl)) dL_law_1664 ⟨by show c0 + _ ≤ 601024; omega, by show s0 + _ ≤ 7293034; omega⟩) hP hD hS hA (fun _ => lw_fst) (fun r_3 u_1 H locs q_2 hP hD hS => ?_)
  have hP : PP G (lwW G a v mo ki pr df co bi g9 lr bf tn ln nx ct hv v0 k0 v1 k1 oa of mh m1 m2 m3 m4 m5 ss hi sl tx ne th kn ke le sp wr si on tw dn) H := hP
  have hD : va_D (lo G) (lwW G a v mo ki pr df co bi g9 lr bf tn ln nx ct hv v0 k0 v1 k1 oa of mh m1 m2 m3 m4 m5 ss hi sl tx ne th kn ke le sp wr si on tw dn) := hD
  refine topE (v' := nI (1)) (q_2) ?_
  refine lv_istore (lv' := [(5, .int (nI (1))), (0, .ref bq), (1, .ref (a 0)), (2, .ref mh), (3, .ref oa), (4, .int (nI (i)))]) hx hb dL_law_1667 hl (by decide) rfl (fun ls hl => ?_)
  refine lv_aload_n hx hb dL_law_1669 rfl (lv_at hl 3 rfl) ?_
  refine lv_aload_n hx hb dL_law_1670 rfl (lv_at hl 1 rfl) ?_
  refine lv_iload hx hb dL_law_1671 (lv_at hl 5 rfl) ?_
  refine lv_iconst (v := nI (1)) hx hb dL_law_1673 (by decide) ?_
  refine gAdd (z := nI (i + 1)) hx hb dL_law_1674 (nI_add _ _) ?_
  refine gScr (i := i + 1) (v := p) hx hb hX hbl hbA hS (by omega) hL9 ha1 dL_law_1675 ?_
  refine kSufI (va_runV (As := [.int (p)]) (rest := []) ⟨hx, hb, hml, hown, hts⟩ (c_X9_saveState_1 mh m1 m2 m3 m4 m5 ss hi sl tx ne th kn ke le sp wr si on tw dn p (hbad) (PP_r hP) ((pre_D (va_D_swap hD)).weaken (fun _ _ _ h => hLo _ h))) (cwV 1 hts gL_law_X9_saveState rfl rfl rfl (by decide +kernel) ⟨(Nat.le_of_ble_eq_true rfl), (Nat.le_of_ble_eq_true rfl)⟩) (preV hC hS hLo (PP_r hP) (ci := 8) (q0 := 0) rfl rfl) rfl rfl hl.1 rfl (lv_room (Nat.le_of_ble_eq_true rfl)) dL_law_1676 ⟨by show c0 + _ ≤ 601024; omega, by show s0 + _ ≤ 7293034; omega⟩) hP hD hS hA (fun _ => rfl) (fun r_6 u_4 H locs q_5 hP hD hS => ?_)
  have hP : PP G (lwW G a v mo ki pr df co bi g9 lr bf tn ln nx ct hv v0 k0 v1 k1 oa of mh m1 m2 m3 m4 m5 ss hi sl tx ne (nI 1) kn ke le sp wr si on tw dn) H := hP
  have hD : va_D (lo G) (lwW G a v mo ki pr df co bi g9 lr bf tn ln nx ct hv v0 k0 v1 k1 oa of mh m1 m2 m3 m4 m5 ss hi sl tx ne (nI 1) kn ke le sp wr si on tw dn) := hD
  refine topE (v' := nI (0)) (q_5) ?_
  refine lv_istore (lv' := [(6, .int (nI (0))), (5, .int (nI (1))), (0, .ref bq), (1, .ref (a 0)), (2, .ref mh), (3, .ref oa), (4, .int (nI (i)))]) hx hb dL_law_1679 hl (by decide) rfl (fun ls hl => ?_)
  refine lv_aload_n hx hb dL_law_1681 rfl (lv_at hl 4 rfl) ?_
  refine kPi (va_runV (As := []) (rest := []) ⟨hx, hb, hml, hown, hts⟩ (c_X9_thrown mh m1 m2 m3 m4 m5 ss hi sl tx ne (nI (1)) kn ke le sp wr si on tw dn (PP_r hP)) (cwV 0 hts gL_law_X9_thrown rfl rfl rfl (by decide +kernel) ⟨(Nat.le_of_ble_eq_true rfl), (Nat.le_of_ble_eq_true rfl)⟩) (preV hC hS hLo (PP_r hP) (ci := 8) (q0 := 0) rfl rfl) rfl rfl hl.1 rfl (lv_room (Nat.le_of_ble_eq_true rfl)) dL_law_1682 ⟨by show c0 + _ ≤ 601024; omega, by show s0 + _ ≤ 7293034; omega⟩) hS (fun locs hS => ?_)
  refine lv_iload hx hb dL_law_1685 (lv_at hl 1 rfl) ?_
  refine lv_icmp_eq (tgt := 1692) hx hb dL_law_1687 (by decide) (fun c_7 => ?_) (fun c_7 => ?_)
  · have f_8 := c_7
    refine lv_iload hx hb dL_law_1692 (lv_at hl 1 rfl) ?_
    refine lv_if_ne (tgt := 1709) hx hb dL_law_1694 (by decide) (fun c_9 => ?_) (fun c_9 => ?_)
    · have f_10 : ¬ (1 : Int) = (0 : Int) := fun z => c_9 ((c_eq (nI_toInt (n := 1) (by omega)) rfl).mpr z)
      refine lv_goto (tgt := 1768) hx hb dL_law_1709 (by decide) ?_
      exact hk H locs ls hP hD hS (lv_sub hl [2, 3, 4, 5, 6] rfl)
    · have f_11 : (1 : Int) = (0 : Int) := (c_eq (nI_toInt (n := 1) (by omega)) rfl).mp c_9
      exfalso; omega
  · have f_12 := c_7
    exact absurd rfl f_12

set_option maxHeartbeats 4000000 in
set_option maxRecDepth 100000 in
theorem lw_34_x1 {pg : Program} {l : Launch} {ev : Env} {s : State} {m : MethodId} {below : List Frame} {meth : Method} {c : Code} {Q : State → Prop} {G : GT} {bq L : Nat} {xs : Nat → Int32} (hLK : LK pg l s m meth c bq L xs G) (c0 s0 : Nat) (hroom : c0 + 1 ≤ 601024 ∧ s0 + 6 ≤ 7293034) (a : Nat → Nat) (v : SVT) (mo ki : Nat → Nat) (pr df : Nat → Int) (co : Int32) (bi : Nat) (g9 : Nat → Int32) (lr : Nat) (bf : Nat → Int) (tn : Nat → Nat) (ln nx ct : Nat) (hv : Nat → SVT) (v0 : SVT) (k0 : Nat) (v1 : SVT) (k1 : Nat) (oa : Nat) (of : Nat → Int64) (mh m1 m2 m3 m4 m5 : Nat) (ss hi sl : Nat → Int) (tx : Nat → Nat) (ne : Nat → Int) (th : Int32) (kn ke le : Nat) (sp wr si on tw dn : Int32) (i : Nat) (p : Int32) (hi5 : i + 5 ≤ L) (ha1 : xs (i + 1) = p) (hbad : p.toInt < 0 ∨ 2 ≤ p.toInt) {H : Heap} {locs : List Loc} {ls : Array Slot} (hP : PP G (lwW G a v mo ki pr df co bi g9 lr bf tn ln nx ct hv v0 k0 v1 k1 oa of mh m1 m2 m3 m4 m5 ss hi sl tx ne th kn ke le sp wr si on tw dn) H) (hD : va_D (lo G) (lwW G a v mo ki pr df co bi g9 lr bf tn ln nx ct hv v0 k0 v1 k1 oa of mh m1 m2 m3 m4 m5 ss hi sl tx ne th kn ke le sp wr si on tw dn)) (hS : va_S (lo G) s.heap H locs) (hl : lv_has ls 7 [(0, .ref bq), (1, .ref (a 0)), (2, .ref mh), (3, .ref oa), (4, .int (nI (i)))])
    (hk : ∀ (H : Heap) (locs : List Loc) (ls : Array Slot), PP G (lwW G a v mo ki pr df co bi g9 lr bf tn ln nx ct hv v0 k0 v1 k1 oa of mh m1 m2 m3 m4 m5 ss hi sl tx ne (nI 1) kn ke le sp wr si on tw dn) H → va_D (lo G) (lwW G a v mo ki pr df co bi g9 lr bf tn ln nx ct hv v0 k0 v1 k1 oa of mh m1 m2 m3 m4 m5 ss hi sl tx ne (nI 1) kn ke le sp wr si on tw dn) → va_S (lo G) s.heap H locs → lv_has ls 7 [(0, .ref bq), (1, .ref (a 0)), (2, .ref mh), (3, .ref oa), (4, .int (nI (i)))] → W pg l ev room_1 s m #[Value.ref bq] below meth c H locs (c0 + 1) (s0 + 6) Q (F0 m 1768 ls [])) :
    W pg l ev room_1 s m #[Value.ref bq] below meth c H locs c0 s0 Q (F0 m 1712 ls []) := by
  obtain ⟨hx, hb, hml, hown, hts, hX, hbl, hCX, hgB, hfl, hL9⟩ := hLK
  have hC := hCX.1
  have hLo : ∀ q, lo G q → lo G q := fun _ h => h
  have hA : ∀ q, s.heap.size ≤ q → lo G q := fun q h => by show gB G ≤ q; rw [hgB]; exact h
  have hbA : ¬ lo G bq := by show ¬ gB G ≤ bq; rw [hgB]; omega
  refine lv_aload_n hx hb dL_law_1712 rfl (lv_at hl 1 rfl) ?_
  refine lv_aload_n hx hb dL_law_1713 rfl (lv_at hl 0 rfl) ?_
  refine lv_iload hx hb dL_law_1714 (lv_at hl 4 rfl) ?_
  refine lv_iconst (v := nI (1)) hx hb dL_law_1716 (by decide) ?_
  refine gAdd (z := nI (i + 1)) hx hb dL_law_1717 (nI_add _ _) ?_
  refine gScr (i := i + 1) (v := p) hx hb hX hbl hbA hS (by omega) hL9 ha1 dL_law_1718 ?_
  refine lv_aload_n hx hb dL_law_1719 rfl (lv_at hl 3 rfl) ?_
  refine kPreI (vx_runSW (As := [.ref (a 0), .int (p), .ref oa]) (rest := []) ⟨hx, hb, hml, hown, hts⟩ (c_L_loadState_1 a v mo ki pr df co bi g9 lr bf tn ln nx ct hv v0 k0 v1 k1 oa of p (hbad) hfl (PP_l hP) ((pre_D hD).weaken (fun _ _ _ h => hLo _ h))) (vx_cwSW 3 hts gL_law_L_loadState rfl rfl rfl (by decide +kernel) ⟨(Nat.le_of_ble_eq_true rfl), (Nat.le_of_ble_eq_true rfl)⟩) (preSX hCX hS hLo) rfl rfl hl.1 rfl (lv_room (Nat.le_of_ble_eq_true rfl)) dL_law_1720 ⟨by show c0 + _ ≤ 601024; omega, by show s0 + _ ≤ 7293034; omega⟩) hP hD hS hA (fun _ => lw_fst) (fun r_3 u_1 H locs q_2 hP hD hS => ?_)
  have hP : PP G (lwW G a v mo ki pr df co bi g9 lr bf tn ln nx ct hv v0 k0 v1 k1 oa of mh m1 m2 m3 m4 m5 ss hi sl tx ne th kn ke le sp wr si on tw dn) H := hP
  have hD : va_D (lo G) (lwW G a v mo ki pr df co bi g9 lr bf tn ln nx ct hv v0 k0 v1 k1 oa of mh m1 m2 m3 m4 m5 ss hi sl tx ne th kn ke le sp wr si on tw dn) := hD
  refine topE (v' := nI (1)) (q_2) ?_
  refine lv_istore (lv' := [(5, .int (nI (1))), (0, .ref bq), (1, .ref (a 0)), (2, .ref mh), (3, .ref oa), (4, .int (nI (i)))]) hx hb dL_law_1723 hl (by decide) rfl (fun ls hl => ?_)
  refine lv_aload_n hx hb dL_law_1725 rfl (lv_at hl 3 rfl) ?_
  refine lv_aload_n hx hb dL_law_1726 rfl (lv_at hl 1 rfl) ?_
  refine lv_iload hx hb dL_law_1727 (lv_at hl 5 rfl) ?_
  refine lv_iconst (v := nI (1)) hx hb dL_law_1729 (by decide) ?_
  refine gAdd (z := nI (i + 1)) hx hb dL_law_1730 (nI_add _ _) ?_
  refine gScr (i := i + 1) (v := p) hx hb hX hbl hbA hS (by omega) hL9 ha1 dL_law_1731 ?_
  refine kSufI (va_runV (As := [.int (p)]) (rest := []) ⟨hx, hb, hml, hown, hts⟩ (c_X9_loadState_1 mh m1 m2 m3 m4 m5 ss hi sl tx ne th kn ke le sp wr si on tw dn p (hbad) (PP_r hP) ((pre_D (va_D_swap hD)).weaken (fun _ _ _ h => hLo _ h))) (cwV 1 hts gL_law_X9_loadState rfl rfl rfl (by decide +kernel) ⟨(Nat.le_of_ble_eq_true rfl), (Nat.le_of_ble_eq_true rfl)⟩) (preV hC hS hLo (PP_r hP) (ci := 8) (q0 := 0) rfl rfl) rfl rfl hl.1 rfl (lv_room (Nat.le_of_ble_eq_true rfl)) dL_law_1732 ⟨by show c0 + _ ≤ 601024; omega, by show s0 + _ ≤ 7293034; omega⟩) hP hD hS hA (fun _ => rfl) (fun r_6 u_4 H locs q_5 hP hD hS => ?_)
  have hP : PP G (lwW G a v mo ki pr df co bi g9 lr bf tn ln nx ct hv v0 k0 v1 k1 oa of mh m1 m2 m3 m4 m5 ss hi sl tx ne (nI 1) kn ke le sp wr si on tw dn) H := hP
  have hD : va_D (lo G) (lwW G a v mo ki pr df co bi g9 lr bf tn ln nx ct hv v0 k0 v1 k1 oa of mh m1 m2 m3 m4 m5 ss hi sl tx ne (nI 1) kn ke le sp wr si on tw dn) := hD
  refine topE (v' := nI (0)) (q_5) ?_
  refine lv_istore (lv' := [(6, .int (nI (0))), (5, .int (nI (1))), (0, .ref bq), (1, .ref (a 0)), (2, .ref mh), (3, .ref oa), (4, .int (nI (i)))]) hx hb dL_law_1735 hl (by decide) rfl (fun ls hl => ?_)
  refine lv_aload_n hx hb dL_law_1737 rfl (lv_at hl 4 rfl) ?_
  refine kPi (va_runV (As := []) (rest := []) ⟨hx, hb, hml, hown, hts⟩ (c_X9_thrown mh m1 m2 m3 m4 m5 ss hi sl tx ne (nI (1)) kn ke le sp wr si on tw dn (PP_r hP)) (cwV 0 hts gL_law_X9_thrown rfl rfl rfl (by decide +kernel) ⟨(Nat.le_of_ble_eq_true rfl), (Nat.le_of_ble_eq_true rfl)⟩) (preV hC hS hLo (PP_r hP) (ci := 8) (q0 := 0) rfl rfl) rfl rfl hl.1 rfl (lv_room (Nat.le_of_ble_eq_true rfl)) dL_law_1738 ⟨by show c0 + _ ≤ 601024; omega, by show s0 + _ ≤ 7293034; omega⟩) hS (fun locs hS => ?_)
  refine lv_iload hx hb dL_law_1741 (lv_at hl 1 rfl) ?_
  refine lv_icmp_eq (tgt := 1748) hx hb dL_law_1743 (by decide) (fun c_7 => ?_) (fun c_7 => ?_)
  · have f_8 := c_7
    refine lv_iload hx hb dL_law_1748 (lv_at hl 1 rfl) ?_
    refine lv_if_ne (tgt := 1765) hx hb dL_law_1750 (by decide) (fun c_9 => ?_) (fun c_9 => ?_)
    · have f_10 : ¬ (1 : Int) = (0 : Int) := fun z => c_9 ((c_eq (nI_toInt (n := 1) (by omega)) rfl).mpr z)
      refine lv_goto (tgt := 1768) hx hb dL_law_1765 (by decide) ?_
      exact hk H locs ls hP hD hS (lv_sub hl [2, 3, 4, 5, 6] rfl)
    · have f_11 : (1 : Int) = (0 : Int) := (c_eq (nI_toInt (n := 1) (by omega)) rfl).mp c_9
      exfalso; omega
  · have f_12 := c_7
    exact absurd rfl f_12
