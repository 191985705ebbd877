set_option maxHeartbeats 4000000 in
set_option maxRecDepth 100000 in
theorem lw_5_x1 {pg : Program} {l : Launch} {ev : Env} {s : State} {m : MethodId} {below : List Frame} {meth : Method} {c : Code} {Q : State → Prop} {G : GT} {bq L : Nat} {xs : Nat → Int32} (hLK : LK pg l s m meth c bq L xs G) (c0 s0 : Nat) (hroom : c0 + 1 ≤ 601024 ∧ s0 + 6 ≤ 7293034) (a : Nat → Nat) (v : SVT) (mo ki : Nat → Nat) (pr df : Nat → Int) (co : Int32) (bi : Nat) (g9 : Nat → Int32) (lr : Nat) (bf : Nat → Int) (tn : Nat → Nat) (ln nx ct : Nat) (hv : Nat → SVT) (v0 : SVT) (k0 : Nat) (v1 : SVT) (k1 : Nat) (oa : Nat) (of : Nat → Int64) (mh m1 m2 m3 m4 m5 : Nat) (ss hi sl : Nat → Int) (tx : Nat → Nat) (ne : Nat → Int) (th : Int32) (kn ke le : Nat) (sp wr si on tw dn : Int32) (i : Nat) (x0 : Int32) (hi5 : i + 5 ≤ L) (ha1 : xs (i + 1) = x0) (hbad : x0.toInt < 1 ∨ 20 < x0.toInt) {H : Heap} {locs : List Loc} {ls : Array Slot} (hP : PP G (lwW G a v mo ki pr df co bi g9 lr bf tn ln nx ct hv v0 k0 v1 k1 oa of mh m1 m2 m3 m4 m5 ss hi sl tx ne th kn ke le sp wr si on tw dn) H) (hD : va_D (lo G) (lwW G a v mo ki pr df co bi g9 lr bf tn ln nx ct hv v0 k0 v1 k1 oa of mh m1 m2 m3 m4 m5 ss hi sl tx ne th kn ke le sp wr si on tw dn)) (hS : va_S (lo G) s.heap H locs) (hl : lv_has ls 7 [(0, .ref bq), (1, .ref (a 0)), (2, .ref mh), (3, .ref oa), (4, .int (nI (i)))])
    (hk : ∀ (H : Heap) (locs : List Loc) (ls : Array Slot), PP G (lwW G a v mo ki pr df co bi g9 lr bf tn ln nx ct hv v0 k0 v1 k1 oa of mh m1 m2 m3 m4 m5 ss hi sl tx ne (nI 1) kn ke le sp wr si on tw dn) H → va_D (lo G) (lwW G a v mo ki pr df co bi g9 lr bf tn ln nx ct hv v0 k0 v1 k1 oa of mh m1 m2 m3 m4 m5 ss hi sl tx ne (nI 1) kn ke le sp wr si on tw dn) → va_S (lo G) s.heap H locs → lv_has ls 7 [(0, .ref bq), (1, .ref (a 0)), (2, .ref mh), (3, .ref oa), (4, .int (nI (i)))] → W pg l ev room_1 s m #[Value.ref bq] below meth c H locs (c0 + 1) (s0 + 6) Q (F0 m 1768 ls [])) :
    W pg l ev room_1 s m #[Value.ref bq] below meth c H locs c0 s0 Q (F0 m 548 ls []) := by
  obtain ⟨hx, hb, hml, hown, hts, hX, hbl, hCX, hgB, hfl, hL9⟩ := hLK
  have hC := hCX.1
  have hLo : ∀ q, lo G q → lo G q := fun _ h => h
  have hA : ∀ q, s.heap.size ≤ q → lo G q := fun q h => by show gB G ≤ q; rw [hgB]; exact h
  have hbA : ¬ lo G bq := by show ¬ gB G ≤ bq; rw [hgB]; omega
  refine lv_aload_n hx hb dL_law_548 rfl (lv_at hl 1 rfl) ?_
  refine lv_aload_n hx hb dL_law_549 rfl (lv_at hl 0 rfl) ?_
  refine lv_iload hx hb dL_law_550 (lv_at hl 4 rfl) ?_
  refine lv_iconst (v := nI (1)) hx hb dL_law_552 (by decide) ?_
  refine gAdd (z := nI (i + 1)) hx hb dL_law_553 (nI_add _ _) ?_
  refine gScr (i := i + 1) (v := x0) hx hb hX hbl hbA hS (by omega) hL9 ha1 dL_law_554 ?_
  refine lv_aload_n hx hb dL_law_555 rfl (lv_at hl 3 rfl) ?_
  refine kPreI (vx_runSW (As := [.ref (a 0), .int (x0), .ref oa]) (rest := []) ⟨hx, hb, hml, hown, hts⟩ (c_L_setKeyDistance_1 a v mo ki pr df co bi g9 lr bf tn ln nx ct hv v0 k0 v1 k1 oa of x0 (hbad) hfl (PP_l hP) ((pre_D hD).weaken (fun _ _ _ h => hLo _ h))) (vx_cwSW 3 hts gL_law_L_setKeyDistance rfl rfl rfl (by decide +kernel) ⟨(Nat.le_of_ble_eq_true rfl), (Nat.le_of_ble_eq_true rfl)⟩) (preSX hCX hS hLo) rfl rfl hl.1 rfl (lv_room (Nat.le_of_ble_eq_true rfl)) dL_law_556 ⟨by show c0 + _ ≤ 601024; omega, by show s0 + _ ≤ 7293034; omega⟩) hP hD hS hA (fun _ => lw_fst) (fun r_3 u_1 H locs q_2 hP hD hS => ?_)
  have hP : PP G (lwW G a v mo ki pr df co bi g9 lr bf tn ln nx ct hv v0 k0 v1 k1 oa of mh m1 m2 m3 m4 m5 ss hi sl tx ne th kn ke le sp wr si on tw dn) H := hP
  have hD : va_D (lo G) (lwW G a v mo ki pr df co bi g9 lr bf tn ln nx ct hv v0 k0 v1 k1 oa of mh m1 m2 m3 m4 m5 ss hi sl tx ne th kn ke le sp wr si on tw dn) := hD
  refine topE (v' := nI (1)) (q_2) ?_
  refine lv_istore (lv' := [(5, .int (nI (1))), (0, .ref bq), (1, .ref (a 0)), (2, .ref mh), (3, .ref oa), (4, .int (nI (i)))]) hx hb dL_law_559 hl (by decide) rfl (fun ls hl => ?_)
  refine lv_aload_n hx hb dL_law_561 rfl (lv_at hl 3 rfl) ?_
  refine lv_aload_n hx hb dL_law_562 rfl (lv_at hl 1 rfl) ?_
  refine lv_iload hx hb dL_law_563 (lv_at hl 5 rfl) ?_
  refine lv_iconst (v := nI (1)) hx hb dL_law_565 (by decide) ?_
  refine gAdd (z := nI (i + 1)) hx hb dL_law_566 (nI_add _ _) ?_
  refine gScr (i := i + 1) (v := x0) hx hb hX hbl hbA hS (by omega) hL9 ha1 dL_law_567 ?_
  refine kSufI (va_runV (As := [.int (x0)]) (rest := []) ⟨hx, hb, hml, hown, hts⟩ (c_X9_setKeyDistance_1 mh m1 m2 m3 m4 m5 ss hi sl tx ne th kn ke le sp wr si on tw dn x0 (hbad) (PP_r hP) ((pre_D (va_D_swap hD)).weaken (fun _ _ _ h => hLo _ h))) (cwV 1 hts gL_law_X9_setKeyDistance rfl rfl rfl (by decide +kernel) ⟨(Nat.le_of_ble_eq_true rfl), (Nat.le_of_ble_eq_true rfl)⟩) (preV hC hS hLo (PP_r hP) (ci := 8) (q0 := 0) rfl rfl) rfl rfl hl.1 rfl (lv_room (Nat.le_of_ble_eq_true rfl)) dL_law_568 ⟨by show c0 + _ ≤ 601024; omega, by show s0 + _ ≤ 7293034; omega⟩) hP hD hS hA (fun _ => rfl) (fun r_6 u_4 H locs q_5 hP hD hS => ?_)
  have hP : PP G (lwW G a v mo ki pr df co bi g9 lr bf tn ln nx ct hv v0 k0 v1 k1 oa of mh m1 m2 m3 m4 m5 ss hi sl tx ne (nI 1) kn ke le sp wr si on tw dn) H := hP
  have hD : va_D (lo G) (lwW G a v mo ki pr df co bi g9 lr bf tn ln nx ct hv v0 k0 v1 k1 oa of mh m1 m2 m3 m4 m5 ss hi sl tx ne (nI 1) kn ke le sp wr si on tw dn) := hD
  refine topE (v' := nI (0)) (q_5) ?_
  refine lv_istore (lv' := [(6, .int (nI (0))), (5, .int (nI (1))), (0, .ref bq), (1, .ref (a 0)), (2, .ref mh), (3, .ref oa), (4, .int (nI (i)))]) hx hb dL_law_571 hl (by decide) rfl (fun ls hl => ?_)
  refine lv_aload_n hx hb dL_law_573 rfl (lv_at hl 4 rfl) ?_
  refine kPi (va_runV (As := []) (rest := []) ⟨hx, hb, hml, hown, hts⟩ (c_X9_thrown mh m1 m2 m3 m4 m5 ss hi sl tx ne (nI (1)) kn ke le sp wr si on tw dn (PP_r hP)) (cwV 0 hts gL_law_X9_thrown rfl rfl rfl (by decide +kernel) ⟨(Nat.le_of_ble_eq_true rfl), (Nat.le_of_ble_eq_true rfl)⟩) (preV hC hS hLo (PP_r hP) (ci := 8) (q0 := 0) rfl rfl) rfl rfl hl.1 rfl (lv_room (Nat.le_of_ble_eq_true rfl)) dL_law_574 ⟨by show c0 + _ ≤ 601024; omega, by show s0 + _ ≤ 7293034; omega⟩) hS (fun locs hS => ?_)
  refine lv_iload hx hb dL_law_577 (lv_at hl 1 rfl) ?_
  refine lv_icmp_eq (tgt := 584) hx hb dL_law_579 (by decide) (fun c_7 => ?_) (fun c_7 => ?_)
  · have f_8 := c_7
    refine lv_iload hx hb dL_law_584 (lv_at hl 1 rfl) ?_
    refine lv_if_ne (tgt := 601) hx hb dL_law_586 (by decide) (fun c_9 => ?_) (fun c_9 => ?_)
    · have f_10 : ¬ (1 : Int) = (0 : Int) := fun z => c_9 ((c_eq (nI_toInt (n := 1) (by omega)) rfl).mpr z)
      refine lv_goto (tgt := 1768) hx hb dL_law_601 (by decide) ?_
      exact hk H locs ls hP hD hS (lv_sub hl [2, 3, 4, 5, 6] rfl)
    · have f_11 : (1 : Int) = (0 : Int) := (c_eq (nI_toInt (n := 1) (by omega)) rfl).mp c_9
      exfalso; omega
  · have f_12 := c_7
    exact absurd rfl f_12

set_option maxHeartbeats 4000000 in
set_option maxRecDepth 100000 in
theorem lw_6_ok {pg : Program} {l : Launch} {ev : Env} {s : State} {m : MethodId} {below : List Frame} {meth : Method} {c : Code} {Q : State → Prop} {G : GT} {bq L : Nat} {xs : Nat → Int32} (hLK : LK pg l s m meth c bq L xs G) (c0 s0 : Nat) (hroom : c0 + 1 ≤ 601024 ∧ s0 + 6 ≤ 7293034) (a : Nat → Nat) (v : SVT) (mo ki : Nat → Nat) (pr df : Nat → Int) (co : Int32) (bi : Nat) (g9 : Nat → Int32) (lr : Nat) (bf : Nat → Int) (tn : Nat → Nat) (ln nx ct : Nat) (hv : Nat → SVT) (v0 : SVT) (k0 : Nat) (v1 : SVT) (k1 : Nat) (oa : Nat) (of : Nat → Int64) (mh m1 m2 m3 m4 m5 : Nat) (ss hi sl : Nat → Int) (tx : Nat → Nat) (ne : Nat → Int) (th : Int32) (kn ke le : Nat) (sp wr si on tw dn : Int32) (i : Nat) (p : Nat) (hi5 : i + 5 ≤ L) (ha1 : xs (i + 1) = nI (p)) (hp : p < 64) (heq : iI (ss p) = iI (v.1 p)) {H : Heap} {locs : List Loc} {ls : Array Slot} (hP : PP G (lwW G a v mo ki pr df co bi g9 lr bf tn ln nx ct hv v0 k0 v1 k1 oa of mh m1 m2 m3 m4 m5 ss hi sl tx ne th kn ke le sp wr si on tw dn) H) (hD : va_D (lo G) (lwW G a v mo ki pr df co bi g9 lr bf tn ln nx ct hv v0 k0 v1 k1 oa of mh m1 m2 m3 m4 m5 ss hi sl tx ne th kn ke le sp wr si on tw dn)) (hS : va_S (lo G) s.heap H locs) (hl : lv_has ls 7 [(0, .ref bq), (1, .ref (a 0)), (2, .ref mh), (3, .ref oa), (4, .int (nI (i)))])
    (hk : ∀ (H : Heap) (locs : List Loc) (ls : Array Slot), PP G (lwW G a v mo ki pr df co bi g9 lr bf tn ln nx ct hv v0 k0 v1 k1 oa (vp_updL of 0 ((iI (v.1 p)).toInt64)) mh m1 m2 m3 m4 m5 ss hi sl tx ne (nI 0) kn ke le sp wr si on tw dn) H → va_D (lo G) (lwW G a v mo ki pr df co bi g9 lr bf tn ln nx ct hv v0 k0 v1 k1 oa (vp_updL of 0 ((iI (v.1 p)).toInt64)) mh m1 m2 m3 m4 m5 ss hi sl tx ne (nI 0) kn ke le sp wr si on tw dn) → va_S (lo G) s.heap H locs → lv_has ls 7 [(0, .ref bq), (1, .ref (a 0)), (2, .ref mh), (3, .ref oa), (4, .int (nI (i)))] → W pg l ev room_1 s m #[Value.ref bq] below meth c H locs (c0 + 0) (s0 + 0) Q (F0 m 1768 ls [])) :
    W pg l ev room_1 s m #[Value.ref bq] below meth c H locs c0 s0 Q (F0 m 604 ls []) := by
  obtain ⟨hx, hb, hml, hown, hts, hX, hbl, hCX, hgB, hfl, hL9⟩ := hLK
  have hC := hCX.1
  have hLo : ∀ q, lo G q → lo G q := fun _ h => h
  have hA : ∀ q, s.heap.size ≤ q → lo G q := fun q h => by show gB G ≤ q; rw [hgB]; exact h
  have hbA : ¬ lo G bq := by show ¬ gB G ≤ bq; rw [hgB]; omega
  refine lv_aload_n hx hb dL_law_604 rfl (lv_at hl 1 rfl) ?_
  refine lv_aload_n hx hb dL_law_605 rfl (lv_at hl 0 rfl) ?_
  refine lv_iload hx hb dL_law_606 (lv_at hl 4 rfl) ?_
  refine lv_iconst (v := nI (1)) hx hb dL_law_608 (by decide) ?_
  refine gAdd (z := nI (i + 1)) hx hb dL_law_609 (nI_add _ _) ?_
  refine gScr (i := i + 1) (v := nI (p)) hx hb hX hbl hbA hS (by omega) hL9 ha1 dL_law_610 ?_
  refine lv_aload_n hx hb dL_law_611 rfl (lv_at hl 3 rfl) ?_
  refine kPreI (vx_runSW (As := [.ref (a 0), .int (nI (p)), .ref oa]) (rest := []) ⟨hx, hb, hml, hown, hts⟩ (c_L_drawnAt a v mo ki pr df co bi g9 lr bf tn ln nx ct hv v0 k0 v1 k1 oa of p (hp) (PP_l hP) ((pre_D hD).weaken (fun _ _ _ h => hLo _ h))) (vx_cwSW 3 hts gL_law_L_drawnAt rfl rfl rfl (by decide +kernel) ⟨(Nat.le_of_ble_eq_true rfl), (Nat.le_of_ble_eq_true rfl)⟩) (preS hC hS hLo) rfl rfl hl.1 rfl (lv_room (Nat.le_of_ble_eq_true rfl)) dL_law_612 ⟨by show c0 + _ ≤ 601024; omega, by show s0 + _ ≤ 7293034; omega⟩) hP hD hS hA (fun _ => lw_fst) (fun r_3 u_1 H locs q_2 hP hD hS => ?_)
  have hP : PP G (lwW G a v mo ki pr df co bi g9 lr bf tn ln nx ct hv v0 k0 v1 k1 oa (vp_updL of 0 ((iI (v.1 p)).toInt64)) mh m1 m2 m3 m4 m5 ss hi sl tx ne th kn ke le sp wr si on tw dn) H := hP
  have hD : va_D (lo G) (lwW G a v mo ki pr df co bi g9 lr bf tn ln nx ct hv v0 k0 v1 k1 oa (vp_updL of 0 ((iI (v.1 p)).toInt64)) mh m1 m2 m3 m4 m5 ss hi sl tx ne th kn ke le sp wr si on tw dn) := hD
  refine topE (v' := nI (0)) (q_2) ?_
  refine lv_istore (lv' := [(5, .int (nI (0))), (0, .ref bq), (1, .ref (a 0)), (2, .ref mh), (3, .ref oa), (4, .int (nI (i)))]) hx hb dL_law_615 hl (by decide) rfl (fun ls hl => ?_)
  refine lv_aload_n hx hb dL_law_617 rfl (lv_at hl 3 rfl) ?_
  refine lv_aload_n hx hb dL_law_618 rfl (lv_at hl 1 rfl) ?_
  refine lv_iload hx hb dL_law_619 (lv_at hl 5 rfl) ?_
  refine lv_iconst (v := nI (1)) hx hb dL_law_621 (by decide) ?_
  refine gAdd (z := nI (i + 1)) hx hb dL_law_622 (nI_add _ _) ?_
  refine gScr (i := i + 1) (v := nI (p)) hx hb hX hbl hbA hS (by omega) hL9 ha1 dL_law_623 ?_
  refine kSufI (va_runV (As := [.int (nI (p))]) (rest := []) ⟨hx, hb, hml, hown, hts⟩ (c_X9_drawnAt mh m1 m2 m3 m4 m5 ss hi sl tx ne th kn ke le sp wr si on tw dn p (hp) (PP_r hP) ((pre_D (va_D_swap hD)).weaken (fun _ _ _ h => hLo _ h))) (cwV 1 hts gL_law_X9_drawnAt rfl rfl rfl (by decide +kernel) ⟨(Nat.le_of_ble_eq_true rfl), (Nat.le_of_ble_eq_true rfl)⟩) (preV hC hS hLo (PP_r hP) (ci := 8) (q0 := 0) rfl rfl) rfl rfl hl.1 rfl (lv_room (Nat.le_of_ble_eq_true rfl)) dL_law_624 ⟨by show c0 + _ ≤ 601024; omega, by show s0 + _ ≤ 7293034; omega⟩) hP hD hS hA (fun _ => rfl) (fun r_6 u_4 H locs q_5 hP hD hS => ?_)
  have hP : PP G (lwW G a v mo ki pr df co bi g9 lr bf tn ln nx ct hv v0 k0 v1 k1 oa (vp_updL of 0 ((iI (v.1 p)).toInt64)) mh m1 m2 m3 m4 m5 ss hi sl tx ne (nI 0) kn ke le sp wr si on tw dn) H := hP
  have hD : va_D (lo G) (lwW G a v mo ki pr df co bi g9 lr bf tn ln nx ct hv v0 k0 v1 k1 oa (vp_updL of 0 ((iI (v.1 p)).toInt64)) mh m1 m2 m3 m4 m5 ss hi sl tx ne (nI 0) kn ke le sp wr si on tw dn) := hD
  refine topE (v' := iI (v.1 p)) (q_5.trans (heq)) ?_
  refine lv_istore (lv' := [(6, .int (iI (v.1 p))), (5, .int (nI (0))), (0, .ref bq), (1, .ref (a 0)), (2, .ref mh), (3, .ref oa), (4, .int (nI (i)))]) hx hb dL_law_627 hl (by decide) rfl (fun ls hl => ?_)
  refine lv_aload_n hx hb dL_law_629 rfl (lv_at hl 4 rfl) ?_
  refine kPi (va_runV (As := []) (rest := []) ⟨hx, hb, hml, hown, hts⟩ (c_X9_thrown mh m1 m2 m3 m4 m5 ss hi sl tx ne (nI (0)) kn ke le sp wr si on tw dn (PP_r hP)) (cwV 0 hts gL_law_X9_thrown rfl rfl rfl (by decide +kernel) ⟨(Nat.le_of_ble_eq_true rfl), (Nat.le_of_ble_eq_true rfl)⟩) (preV hC hS hLo (PP_r hP) (ci := 8) (q0 := 0) rfl rfl) rfl rfl hl.1 rfl (lv_room (Nat.le_of_ble_eq_true rfl)) dL_law_630 ⟨by show c0 + _ ≤ 601024; omega, by show s0 + _ ≤ 7293034; omega⟩) hS (fun locs hS => ?_)
  refine lv_iload hx hb dL_law_633 (lv_at hl 1 rfl) ?_
  refine lv_icmp_eq (tgt := 640) hx hb dL_law_635 (by decide) (fun c_7 => ?_) (fun c_7 => ?_)
  · have f_8 := c_7
    refine lv_iload hx hb dL_law_640 (lv_at hl 1 rfl) ?_
    refine lv_if_ne (tgt := 657) hx hb dL_law_642 (by decide) (fun c_9 => ?_) (fun c_9 => ?_)
    · have f_10 : ¬ (0 : Int) = (0 : Int) := fun z => c_9 ((c_eq (nI_toInt (n := 0) (by omega)) rfl).mpr z)
      exfalso; omega
    · have f_11 : (0 : Int) = (0 : Int) := (c_eq (nI_toInt (n := 0) (by omega)) rfl).mp c_9
      refine lv_aload_n hx hb dL_law_645 rfl (lv_at hl 5 rfl) ?_
      refine lv_iconst (v := nI (0)) hx hb dL_law_646 (by decide) ?_
      refine gLald (j := 0) hx hb hC.K (PP_r (PP_l hP)) 0 4 rfl rfl rfl (by decide) (by decide) dL_law_647 ?_
      refine W.eq (g2 := F0 m 648 ls [.long ((iI (v.1 p)).toInt64)]) rfl ?_
      refine lv_iload hx hb dL_law_648 (lv_at hl 0 rfl) ?_
      refine lv_i2l (v := (iI (v.1 p)).toInt64) hx hb dL_law_650 (rfl) ?_
      refine W.lcmp hx hb dL_law_651 ?_
      refine topE (v' := nI (0)) (lg_self _) ?_
      refine lv_if_eq (tgt := 657) hx hb dL_law_652 (by decide) (fun c_12 => ?_) (fun c_12 => ?_)
      · have f_13 : (0 : Int) = (0 : Int) := (c_eq (nI_toInt (n := 0) (by omega)) rfl).mp c_12
        refine lv_goto (tgt := 1768) hx hb dL_law_657 (by decide) ?_
        exact hk H locs ls hP hD hS (lv_sub hl [2, 3, 4, 5, 6] rfl)
      · have f_14 : ¬ (0 : Int) = (0 : Int) := fun z => c_12 ((c_eq (nI_toInt (n := 0) (by omega)) rfl).mpr z)
        exfalso; omega
  · have f_15 := c_7
    exact absurd rfl f_15

set_option maxHeartbeats 4000000 in
set_option maxRecDepth 100000 in
theorem lw_6_x1 {pg : Program} {l : Launch} {ev : Env} {s : State} {m : MethodId} {below : List Frame} {meth : Method} {c : Code} {Q : State → Prop} {G : GT} {bq L : Nat} {xs : Nat → Int32} (hLK : LK pg l s m meth c bq L xs G) (c0 s0 : Nat) (hroom : c0 + 1 ≤ 601024 ∧ s0 + 6 ≤ 7293034) (a : Nat → Nat) (v : SVT) (mo ki : Nat → Nat) (pr df : Nat → Int) (co : Int32) (bi : Nat) (g9 : Nat → Int32) (lr : Nat) (bf : Nat → Int) (tn : Nat → Nat) (ln nx ct : Nat) (hv : Nat → SVT) (v0 : SVT) (k0 : Nat) (v1 : SVT) (k1 : Nat) (oa : Nat) (of : Nat → Int64) (mh m1 m2 m3 m4 m5 : Nat) (ss hi sl : Nat → Int) (tx : Nat → Nat) (ne : Nat → Int) (th : Int32) (kn ke le : Nat) (sp wr si on tw dn : Int32) (i : Nat) (p : Int32) (hi5 : i + 5 ≤ L) (ha1 : xs (i + 1) = p) (hbad : p.toInt < 0 ∨ 64 ≤ p.toInt) {H : Heap} {locs : List Loc} {ls : Array Slot} (hP : PP G (lwW G a v mo ki pr df co bi g9 lr bf tn ln nx ct hv v0 k0 v1 k1 oa of mh m1 m2 m3 m4 m5 ss hi sl tx ne th kn ke le sp wr si on tw dn) H) (hD : va_D (lo G) (lwW G a v mo ki pr df co bi g9 lr bf tn ln nx ct hv v0 k0 v1 k1 oa of mh m1 m2 m3 m4 m5 ss hi sl tx ne th kn ke le sp wr si on tw dn)) (hS : va_S (lo G) s.heap H locs) (hl : lv_has ls 7 [(0, .ref bq), (1, .ref (a 0)), (2, .ref mh), (3, .ref oa), (4, .int (nI (i)))])
    (hk : ∀ (H : Heap) (locs : List Loc) (ls : Array Slot), PP G (lwW G a v mo ki pr df co bi g9 lr bf tn ln nx ct hv v0 k0 v1 k1 oa of mh m1 m2 m3 m4 m5 ss hi sl tx ne (nI 1) kn ke le sp wr si on tw dn) H → va_D (lo G) (lwW G a v mo ki pr df co bi g9 lr bf tn ln nx ct hv v0 k0 v1 k1 oa of mh m1 m2 m3 m4 m5 ss hi sl tx ne (nI 1) kn ke le sp wr si on tw dn) → va_S (lo G) s.heap H locs → lv_has ls 7 [(0, .ref bq), (1, .ref (a 0)), (2, .ref mh), (3, .ref oa), (4, .int (nI (i)))] → W pg l ev room_1 s m #[Value.ref bq] below meth c H locs (c0 + 1) (s0 + 6) Q (F0 m 1768 ls [])) :
    W pg l ev room_1 s m #[Value.ref bq] below meth c H locs c0 s0 Q (F0 m 604 ls []) := by
  obtain ⟨hx, hb, hml, hown, hts, hX, hbl, hCX, hgB, hfl, hL9⟩ := hLK
  have hC := hCX.1
  have hLo : ∀ q, lo G q → lo G q := fun _ h => h
  have hA : ∀ q, s.heap.size ≤ q → lo G q := fun q h => by show gB G ≤ q; rw [hgB]; exact h
  have hbA : ¬ lo G bq := by show ¬ gB G ≤ bq; rw [hgB]; omega
  refine lv_aload_n hx hb dL_law_604 rfl (lv_at hl 1 rfl) ?_
  refine lv_aload_n hx hb dL_law_605 rfl (lv_at hl 0 rfl) ?_
  refine lv_iload hx hb dL_law_606 (lv_at hl 4 rfl) ?_
  refine lv_iconst (v := nI (1)) hx hb dL_law_608 (by decide) ?_
  refine gAdd (z := nI (i + 1)) hx hb dL_law_609 (nI_add _ _) ?_
  refine gScr (i := i + 1) (v := p) hx hb hX hbl hbA hS (by omega) hL9 ha1 dL_law_610 ?_
  refine lv_aload_n hx hb dL_law_611 rfl (lv_at hl 3 rfl) ?_
  refine kPreI (vx_runSW (As := [.ref (a 0), .int (p), .ref oa]) (rest := []) ⟨hx, hb, hml, hown, hts⟩ (c_L_drawnAt_1 a v mo ki pr df co bi g9 lr bf tn ln nx ct hv v0 k0 v1 k1 oa of p (hbad) hfl (PP_l hP) ((pre_D hD).weaken (fun _ _ _ h => hLo _ h))) (vx_cwSW 3 hts gL_law_L_drawnAt rfl rfl rfl (by decide +kernel) ⟨(Nat.le_of_ble_eq_true rfl), (Nat.le_of_ble_eq_true rfl)⟩) (preSX hCX hS hLo) rfl rfl hl.1 rfl (lv_room (Nat.le_of_ble_eq_true rfl)) dL_law_612 ⟨by show c0 + _ ≤ 601024; omega, by show s0 + _ ≤ 7293034; omega⟩) hP hD hS hA (fun _ => lw_fst) (fun r_3 u_1 H locs q_2 hP hD hS => ?_)
  have hP : PP G (lwW G a v mo ki pr df co bi g9 lr bf tn ln nx ct hv v0 k0 v1 k1 oa of mh m1 m2 m3 m4 m5 ss hi sl tx ne th kn ke le sp wr si on tw dn) H := hP
  have hD : va_D (lo G) (lwW G a v mo ki pr df co bi g9 lr bf tn ln nx ct hv v0 k0 v1 k1 oa of mh m1 m2 m3 m4 m5 ss hi sl tx ne th kn ke le sp wr si on tw dn) := hD
  refine topE (v' := nI (1)) (q_2) ?_
  refine lv_istore (lv' := [(5, .int (nI (1))), (0, .ref bq), (1, .ref (a 0)), (2, .ref mh), (3, .ref oa), (4, .int (nI (i)))]) hx hb dL_law_615 hl (by decide) rfl (fun ls hl => ?_)
  refine lv_aload_n hx hb dL_law_617 rfl (lv_at hl 3 rfl) ?_
  refine lv_aload_n hx hb dL_law_618 rfl (lv_at hl 1 rfl) ?_
  refine lv_iload hx hb dL_law_619 (lv_at hl 5 rfl) ?_
  refine lv_iconst (v := nI (1)) hx hb dL_law_621 (by decide) ?_
  refine gAdd (z := nI (i + 1)) hx hb dL_law_622 (nI_add _ _) ?_
  refine gScr (i := i + 1) (v := p) hx hb hX hbl hbA hS (by omega) hL9 ha1 dL_law_623 ?_
  refine kSufI (va_runV (As := [.int (p)]) (rest := []) ⟨hx, hb, hml, hown, hts⟩ (c_X9_drawnAt_1 mh m1 m2 m3 m4 m5 ss hi sl tx ne th kn ke le sp wr si on tw dn p (hbad) (PP_r hP) ((pre_D (va_D_swap hD)).weaken (fun _ _ _ h => hLo _ h))) (cwV 1 hts gL_law_X9_drawnAt rfl rfl rfl (by decide +kernel) ⟨(Nat.le_of_ble_eq_true rfl), (Nat.le_of_ble_eq_true rfl)⟩) (preV hC hS hLo (PP_r hP) (ci := 8) (q0 := 0) rfl rfl) rfl rfl hl.1 rfl (lv_room (Nat.le_of_ble_eq_true rfl)) dL_law_624 ⟨by show c0 + _ ≤ 601024; omega, by show s0 + _ ≤ 7293034; omega⟩) hP hD hS hA (fun _ => rfl) (fun r_6 u_4 H locs q_5 hP hD hS => ?_)
  have hP : PP G (lwW G a v mo ki pr df co bi g9 lr bf tn ln nx ct hv v0 k0 v1 k1 oa of mh m1 m2 m3 m4 m5 ss hi sl tx ne (nI 1) kn ke le sp wr si on tw dn) H := hP
  have hD : va_D (lo G) (lwW G a v mo ki pr df co bi g9 lr bf tn ln nx ct hv v0 k0 v1 k1 oa of mh m1 m2 m3 m4 m5 ss hi sl tx ne (nI 1) kn ke le sp wr si on tw dn) := hD
  refine topE (v' := nI (0)) (q_5) ?_
  refine lv_istore (lv' := [(6, .int (nI (0))), (5, .int (nI (1))), (0, .ref bq), (1, .ref (a 0)), (2, .ref mh), (3, .ref oa), (4, .int (nI (i)))]) hx hb dL_law_627 hl (by decide) rfl (fun ls hl => ?_)
  refine lv_aload_n hx hb dL_law_629 rfl (lv_at hl 4 rfl) ?_
  refine kPi (va_runV (As := []) (rest := []) ⟨hx, hb, hml, hown, hts⟩ (c_X9_thrown mh m1 m2 m3 m4 m5 ss hi sl tx ne (nI (1)) kn ke le sp wr si on tw dn (PP_r hP)) (cwV 0 hts gL_law_X9_thrown rfl rfl rfl (by decide +kernel) ⟨(Nat.le_of_ble_eq_true rfl), (Nat.le_of_ble_eq_true rfl)⟩) (preV hC hS hLo (PP_r hP) (ci := 8) (q0 := 0) rfl rfl) rfl rfl hl.1 rfl (lv_room (Nat.le_of_ble_eq_true rfl)) dL_law_630 ⟨by show c0 + _ ≤ 601024; omega, by show s0 + _ ≤ 7293034; omega⟩) hS (fun locs hS => ?_)
  refine lv_iload hx hb dL_law_633 (lv_at hl 1 rfl) ?_
  refine lv_icmp_eq (tgt := 640) hx hb dL_law_635 (by decide) (fun c_7 => ?_) (fun c_7 => ?_)
  · have f_8 := c_7
    refine lv_iload hx hb dL_law_640 (lv_at hl 1 rfl) ?_
    refine lv_if_ne (tgt := 657) hx hb dL_law_642 (by decide) (fun c_9 => ?_) (fun c_9 => ?_)
    · have f_10 : ¬ (1 : Int) = (0 : Int) := fun z => c_9 ((c_eq (nI_toInt (n := 1) (by omega)) rfl).mpr z)
      refine lv_goto (tgt := 1768) hx hb dL_law_657 (by decide) ?_
      exact hk H locs ls hP hD hS (lv_sub hl [2, 3, 4, 5, 6] rfl)
    · have f_11 : (1 : Int) = (0 : Int) := (c_eq (nI_toInt (n := 1) (by omega)) rfl).mp c_9
      exfalso; omega
  · have f_12 := c_7
    exact absurd rfl f_12

set_option maxHeartbeats 4000000 in
set_option maxRecDepth 100000 in
theorem lw_7_ok {pg : Program} {l : Launch} {ev : Env} {s : State} {m : MethodId} {below : List Frame} {meth : Method} {c : Code} {Q : State → Prop} {G : GT} {bq L : Nat} {xs : Nat → Int32} (hLK : LK pg l s m meth c bq L xs G) (c0 s0 : Nat) (hroom : c0 + 1 ≤ 601024 ∧ s0 + 6 ≤ 7293034) (a : Nat → Nat) (v : SVT) (mo ki : Nat → Nat) (pr df : Nat → Int) (co : Int32) (bi : Nat) (g9 : Nat → Int32) (lr : Nat) (bf : Nat → Int) (tn : Nat → Nat) (ln nx ct : Nat) (hv : Nat → SVT) (v0 : SVT) (k0 : Nat) (v1 : SVT) (k1 : Nat) (oa : Nat) (of : Nat → Int64) (mh m1 m2 m3 m4 m5 : Nat) (ss hi sl : Nat → Int) (tx : Nat → Nat) (ne : Nat → Int) (th : Int32) (kn ke le : Nat) (sp wr si on tw dn : Int32) (i : Nat) (p : Nat) (hi5 : i + 5 ≤ L) (ha1 : xs (i + 1) = nI (p)) (hp : p < 64) (heq : iI (ss (64 + p)) = iI (v.2.1 p)) {H : Heap} {locs : List Loc} {ls : Array Slot} (hP : PP G (lwW G a v mo ki pr df co bi g9 lr bf tn ln nx ct hv v0 k0 v1 k1 oa of mh m1 m2 m3 m4 m5 ss hi sl tx ne th kn ke le sp wr si on tw dn) H) (hD : va_D (lo G) (lwW G a v mo ki pr df co bi g9 lr bf tn ln nx ct hv v0 k0 v1 k1 oa of mh m1 m2 m3 m4 m5 ss hi sl tx ne th kn ke le sp wr si on tw dn)) (hS : va_S (lo G) s.heap H locs) (hl : lv_has ls 7 [(0, .ref bq), (1, .ref (a 0)), (2, .ref mh), (3, .ref oa), (4, .int (nI (i)))])
    (hk : ∀ (H : Heap) (locs : List Loc) (ls : Array Slot), PP G (lwW G a v mo ki pr df co bi g9 lr bf tn ln nx ct hv v0 k0 v1 k1 oa (vp_updL of 0 ((iI (v.2.1 p)).toInt64)) mh m1 m2 m3 m4 m5 ss hi sl tx ne (nI 0) kn ke le sp wr si on tw dn) H → va_D (lo G) (lwW G a v mo ki pr df co bi g9 lr bf tn ln nx ct hv v0 k0 v1 k1 oa (vp_updL of 0 ((iI (v.2.1 p)).toInt64)) mh m1 m2 m3 m4 m5 ss hi sl tx ne (nI 0) kn ke le sp wr si on tw dn) → va_S (lo G) s.heap H locs → lv_has ls 7 [(0, .ref bq), (1, .ref (a 0)), (2, .ref mh), (3, .ref oa), (4, .int (nI (i)))] → W pg l ev room_1 s m #[Value.ref bq] below meth c H locs (c0 + 0) (s0 + 0) Q (F0 m 1768 ls [])) :
    W pg l ev room_1 s m #[Value.ref bq] below meth c H locs c0 s0 Q (F0 m 660 ls []) := by
  obtain ⟨hx, hb, hml, hown, hts, hX, hbl, hCX, hgB, hfl, hL9⟩ := hLK
  have hC := hCX.1
  have hLo : ∀ q, lo G q → lo G q := fun _ h => h
  have hA : ∀ q, s.heap.size ≤ q → lo G q := fun q h => by show gB G ≤ q; rw [hgB]; exact h
  have hbA : ¬ lo G bq := by show ¬ gB G ≤ bq; rw [hgB]; omega
  refine lv_aload_n hx hb dL_law_660 rfl (lv_at hl 1 rfl) ?_
  refine lv_aload_n hx hb dL_law_661 rfl (lv_at hl 0 rfl) ?_
  refine lv_iload hx hb dL_law_662 (lv_at hl 4 rfl) ?_
  refine lv_iconst (v := nI (1)) hx hb dL_law_664 (by decide) ?_
  refine gAdd (z := nI (i + 1)) hx hb dL_law_665 (nI_add _ _) ?_
  refine gScr (i := i + 1) (v := nI (p)) hx hb hX hbl hbA hS (by omega) hL9 ha1 dL_law_666 ?_
  refine lv_aload_n hx hb dL_law_667 rfl (lv_at hl 3 rfl) ?_
  refine kPreI (vx_runSW (As := [.ref (a 0), .int (nI (p)), .ref oa]) (rest := []) ⟨hx, hb, hml, hown, hts⟩ (c_L_sentAt a v mo ki pr df co bi g9 lr bf tn ln nx ct hv v0 k0 v1 k1 oa of p (hp) (PP_l hP) ((pre_D hD).weaken (fun _ _ _ h => hLo _ h))) (vx_cwSW 3 hts gL_law_L_sentAt rfl rfl rfl (by decide +kernel) ⟨(Nat.le_of_ble_eq_true rfl), (Nat.le_of_ble_eq_true rfl)⟩) (preS hC hS hLo) rfl rfl hl.1 rfl (lv_room (Nat.le_of_ble_eq_true rfl)) dL_law_668 ⟨by show c0 + _ ≤ 601024; omega, by show s0 + _ ≤ 7293034; omega⟩) hP hD hS hA (fun _ => lw_fst) (fun r_3 u_1 H locs q_2 hP hD hS => ?_)
  have hP : PP G (lwW G a v mo ki pr df co bi g9 lr bf tn ln nx ct hv v0 k0 v1 k1 oa (vp_updL of 0 ((iI (v.2.1 p)).toInt64)) mh m1 m2 m3 m4 m5 ss hi sl tx ne th kn ke le sp wr si on tw dn) H := hP
  have hD : va_D (lo G) (lwW G a v mo ki pr df co bi g9 lr bf tn ln nx ct hv v0 k0 v1 k1 oa (vp_updL of 0 ((iI (v.2.1 p)).toInt64)) mh m1 m2 m3 m4 m5 ss hi sl tx ne th kn ke le sp wr si on tw dn) := hD
  refine topE (v' := nI (0)) (q_2) ?_
  refine lv_istore (lv' := [(5, .int (nI (0))), (0, .ref bq), (1, .ref (a 0)), (2, .ref mh), (3, .ref oa), (4, .int (nI (i)))]) hx hb dL_law_671 hl (by decide) rfl (fun ls hl => ?_)
  refine lv_aload_n hx hb dL_law_673 rfl (lv_at hl 3 rfl) ?_
  refine lv_aload_n hx hb dL_law_674 rfl (lv_at hl 1 rfl) ?_
  refine lv_iload hx hb dL_law_675 (lv_at hl 5 rfl) ?_
  refine lv_iconst (v := nI (1)) hx hb dL_law_677 (by decide) ?_
  refine gAdd (z := nI (i + 1)) hx hb dL_law_678 (nI_add _ _) ?_
  refine gScr (i := i + 1) (v := nI (p)) hx hb hX hbl hbA hS (by omega) hL9 ha1 dL_law_679 ?_
  refine kSufI (va_runV (As := [.int (nI (p))]) (rest := []) ⟨hx, hb, hml, hown, hts⟩ (c_X9_sentAt mh m1 m2 m3 m4 m5 ss hi sl tx ne th kn ke le sp wr si on tw dn p (hp) (PP_r hP) ((pre_D (va_D_swap hD)).weaken (fun _ _ _ h => hLo _ h))) (cwV 1 hts gL_law_X9_sentAt rfl rfl rfl (by decide +kernel) ⟨(Nat.le_of_ble_eq_true rfl), (Nat.le_of_ble_eq_true rfl)⟩) (preV hC hS hLo (PP_r hP) (ci := 8) (q0 := 0) rfl rfl) rfl rfl hl.1 rfl (lv_room (Nat.le_of_ble_eq_true rfl)) dL_law_680 ⟨by show c0 + _ ≤ 601024; omega, by show s0 + _ ≤ 7293034; omega⟩) hP hD hS hA (fun _ => rfl) (fun r_6 u_4 H locs q_5 hP hD hS => ?_)
  have hP : PP G (lwW G a v mo ki pr df co bi g9 lr bf tn ln nx ct hv v0 k0 v1 k1 oa (vp_updL of 0 ((iI (v.2.1 p)).toInt64)) mh m1 m2 m3 m4 m5 ss hi sl tx ne (nI 0) kn ke le sp wr si on tw dn) H := hP
  have hD : va_D (lo G) (lwW G a v mo ki pr df co bi g9 lr bf tn ln nx ct hv v0 k0 v1 k1 oa (vp_updL of 0 ((iI (v.2.1 p)).toInt64)) mh m1 m2 m3 m4 m5 ss hi sl tx ne (nI 0) kn ke le sp wr si on tw dn) := hD
  refine topE (v' := iI (v.2.1 p)) (q_5.trans (heq)) ?_
  refine lv_istore (lv' := [(6, .int (iI (v.2.1 p))), (5, .int (nI (0))), (0, .ref bq), (1, .ref (a 0)), (2, .ref mh), (3, .ref oa), (4, .int (nI (i)))]) hx hb dL_law_683 hl (by decide) rfl (fun ls hl => ?_)
  refine lv_aload_n hx hb dL_law_685 rfl (lv_at hl 4 rfl) ?_
  refine kPi (va_runV (As := []) (rest := []) ⟨hx, hb, hml, hown, hts⟩ (c_X9_thrown mh m1 m2 m3 m4 m5 ss hi sl tx ne (nI (0)) kn ke le sp wr si on tw dn (PP_r hP)) (cwV 0 hts gL_law_X9_thrown rfl rfl rfl (by decide +kernel) ⟨(Nat.le_of_ble_eq_true rfl), (Nat.le_of_ble_eq_true rfl)⟩) (preV hC hS hLo (PP_r hP) (ci := 8) (q0 := 0) rfl rfl) rfl rfl hl.1 rfl (lv_room (Nat.le_of_ble_eq_true rfl)) dL_law_686 ⟨by show c0 + _ ≤ 601024; omega, by show s0 + _ ≤ 7293034; omega⟩) hS (fun locs hS => ?_)
  refine lv_iload hx hb dL_law_689 (lv_at hl 1 rfl) ?_
  refine lv_icmp_eq (tgt := 696) hx hb dL_law_691 (by decide) (fun c_7 => ?_) (fun c_7 => ?_)
  · have f_8 := c_7
    refine lv_iload hx hb dL_law_696 (lv_at hl 1 rfl) ?_
    refine lv_if_ne (tgt := 713) hx hb dL_law_698 (by decide) (fun c_9 => ?_) (fun c_9 => ?_)
    · have f_10 : ¬ (0 : Int) = (0 : Int) := fun z => c_9 ((c_eq (nI_toInt (n := 0) (by omega)) rfl).mpr z)
      exfalso; omega
    · have f_11 : (0 : Int) = (0 : Int) := (c_eq (nI_toInt (n := 0) (by omega)) rfl).mp c_9
      refine lv_aload_n hx hb dL_law_701 rfl (lv_at hl 5 rfl) ?_
      refine lv_iconst (v := nI (0)) hx hb dL_law_702 (by decide) ?_
      refine gLald (j := 0) hx hb hC.K (PP_r (PP_l hP)) 0 4 rfl rfl rfl (by decide) (by decide) dL_law_703 ?_
      refine W.eq (g2 := F0 m 704 ls [.long ((iI (v.2.1 p)).toInt64)]) rfl ?_
      refine lv_iload hx hb dL_law_704 (lv_at hl 0 rfl) ?_
      refine lv_i2l (v := (iI (v.2.1 p)).toInt64) hx hb dL_law_706 (rfl) ?_
      refine W.lcmp hx hb dL_law_707 ?_
      refine topE (v' := nI (0)) (lg_self _) ?_
      refine lv_if_eq (tgt := 713) hx hb dL_law_708 (by decide) (fun c_12 => ?_) (fun c_12 => ?_)
      · have f_13 : (0 : Int) = (0 : Int) := (c_eq (nI_toInt (n := 0) (by omega)) rfl).mp c_12
        refine lv_goto (tgt := 1768) hx hb dL_law_713 (by decide) ?_
        exact hk H locs ls hP hD hS (lv_sub hl [2, 3, 4, 5, 6] rfl)
      · have f_14 : ¬ (0 : Int) = (0 : Int) := fun z => c_12 ((c_eq (nI_toInt (n := 0) (by omega)) rfl).mpr z)
        exfalso; omega
  · have f_15 := c_7
    exact absurd rfl f_15

set_option maxHeartbeats 4000000 in
set_option maxRecDepth 100000 in
theorem lw_7_x1 {pg : Program} {l : Launch} {ev : Env} {s : State} {m : MethodId} {below : List Frame} {meth : Method} {c : Code} {Q : State → Prop} {G : GT} {bq L : Nat} {xs : Nat → Int32} (hLK : LK pg l s m meth c bq L xs G) (c0 s0 : Nat) (hroom : c0 + 1 ≤ 601024 ∧ s0 + 6 ≤ 7293034) (a : Nat → Nat) (v : SVT) (mo ki : Nat → Nat) (pr df : Nat → Int) (co : Int32) (bi : Nat) (g9 : Nat → Int32) (lr : Nat) (bf : Nat → Int) (tn : Nat → Nat) (ln nx ct : Nat) (hv : Nat → SVT) (v0 : SVT) (k0 : Nat) (v1 : SVT) (k1 : Nat) (oa : Nat) (of : Nat → Int64) (mh m1 m2 m3 m4 m5 : Nat) (ss hi sl : Nat → Int) (tx : Nat → Nat) (ne : Nat → Int) (th : Int32) (kn ke le : Nat) (sp wr si on tw dn : Int32) (i : Nat) (p : Int32) (hi5 : i + 5 ≤ L) (ha1 : xs (i + 1) = p) (hbad : p.toInt < 0 ∨ 64 ≤ p.toInt) {H : Heap} {locs : List Loc} {ls : Array Slot} (hP : PP G (lwW G a v mo ki pr df co bi g9 lr bf tn ln nx ct hv v0 k0 v1 k1 oa of mh m1 m2 m3 m4 m5 ss hi sl tx ne th kn ke le sp wr si on tw dn) H) (hD : va_D (lo G) (lwW G a v mo ki pr df co bi g9 lr bf tn ln nx ct hv v0 k0 v1 k1 oa of mh m1 m2 m3 m4 m5 ss hi sl tx ne th kn ke le sp wr si on tw dn)) (hS : va_S (lo G) s.heap H locs) (hl : lv_has ls 7 [(0, .ref bq), (1, .ref (a 0)), (2, .ref mh), (3, .ref oa), (4, .int (nI (i)))])
    (hk : ∀ (H : Heap) (locs : List Loc) (ls : Array Slot), PP G (lwW G a v mo ki pr df co bi g9 lr bf tn ln nx ct hv v0 k0 v1 k1 oa of mh m1 m2 m3 m4 m5 ss hi sl tx ne (nI 1) kn ke le sp wr si on tw dn) H → va_D (lo G) (lwW G a v mo ki pr df co bi g9 lr bf tn ln nx ct hv v0 k0 v1 k1 oa of mh m1 m2 m3 m4 m5 ss hi sl tx ne (nI 1) kn ke le sp wr si on tw dn) → va_S (lo G) s.heap H locs → lv_has ls 7 [(0, .ref bq), (1, .ref (a 0)), (2, .ref mh), (3, .ref oa), (4, .int (nI (i)))] → W pg l ev room_1 s m #[Value.ref bq] below meth c H locs (c0 + 1) (s0 + 6) Q (F0 m 1768 ls [])) :
    W pg l ev room_1 s m #[Value.ref bq] below meth c H locs c0 s0 Q (F0 m 660 ls []) := by
  obtain ⟨hx, hb, hml, hown, hts, hX, hbl, hCX, hgB, hfl, hL9⟩ := hLK
  have hC := hCX.1
  have hLo : ∀ q, lo G q → lo G q := fun _ h => h
  have hA : ∀ q, s.heap.size ≤ q → lo G q := fun q h => by show gB G ≤ q; rw [hgB]; exact h
  have hbA : ¬ lo G bq := by show ¬ gB G ≤ bq; rw [hgB]; omega
  refine lv_aload_n hx hb dL_law_660 rfl (lv_at hl 1 rfl) ?_
  refine lv_aload_n hx hb dL_law_661 rfl (lv_at hl 0 rfl) ?_
  refine lv_iload hx hb dL_law_662 (lv_at hl 4 rfl) ?_
  refine lv_iconst (v := nI (1)) hx hb dL_law_664 (by decide) ?_
  refine gAdd (z := nI (i + 1)) hx hb dL_law_665 (nI_add _ _) ?_
  refine gScr (i := i + 1) (v := p) hx hb hX hbl hbA hS (by omega) hL9 ha1 dL_law_666 ?_
  refine lv_aload_n hx hb dL_law_667 rfl (lv_at hl 3 rfl) ?_
  refine kPreI (vx_runSW (As := [.ref (a 0), .int (p), .ref oa]) (rest := []) ⟨hx, hb, hml, hown, hts⟩ (c_L_sentAt_1 a v mo ki pr df co bi g9 lr bf tn ln nx ct hv v0 k0 v1 k1 oa of p (hbad) hfl (PP_l hP) ((pre_D hD).weaken (fun _ _ _ h => hLo _ h))) (vx_cwSW 3 hts gL_law_L_sentAt rfl rfl rfl (by decide +kernel) ⟨(Nat.le_of_ble_eq_true rfl), (Nat.le_of_ble_eq_true rfl)⟩) (preSX hCX hS hLo) rfl rfl hl.1 rfl (lv_room (Nat.le_of_ble_eq_true rfl)) dL_law_668 ⟨by show c0 + _ ≤ 601024; omega, by show s0 + _ ≤ 7293034; omega⟩) hP hD hS hA (fun _ => lw_fst) (fun r_3 u_1 H locs q_2 hP hD hS => ?_)
  have hP : PP G (lwW G a v mo ki pr df co bi g9 lr bf tn ln nx ct hv v0 k0 v1 k1 oa of mh m1 m2 m3 m4 m5 ss hi sl tx ne th kn ke le sp wr si on tw dn) H := hP
  have hD : va_D (lo G) (lwW G a v mo ki pr df co bi g9 lr bf tn ln nx ct hv v0 k0 v1 k1 oa of mh m1 m2 m3 m4 m5 ss hi sl tx ne th kn ke le sp wr si on tw dn) := hD
  refine topE (v' := nI (1)) (q_2) ?_
  refine lv_istore (lv' := [(5, .int (nI (1))), (0, .ref bq), (1, .ref (a 0)), (2, .ref mh), (3, .ref oa), (4, .int (nI (i)))]) hx hb dL_law_671 hl (by decide) rfl (fun ls hl => ?_)
  refine lv_aload_n hx hb dL_law_673 rfl (lv_at hl 3 rfl) ?_
  refine lv_aload_n hx hb dL_law_674 rfl (lv_at hl 1 rfl) ?_
  refine lv_iload hx hb dL_law_675 (lv_at hl 5 rfl) ?_
  refine lv_iconst (v := nI (1)) hx hb dL_law_677 (by decide) ?_
  refine gAdd (z := nI (i + 1)) hx hb dL_law_678 (nI_add _ _) ?_
  refine gScr (i := i + 1) (v := p) hx hb hX hbl hbA hS (by omega) hL9 ha1 dL_law_679 ?_
  refine kSufI (va_runV (As := [.int (p)]) (rest := []) ⟨hx, hb, hml, hown, hts⟩ (c_X9_sentAt_1 mh m1 m2 m3 m4 m5 ss hi sl tx ne th kn ke le sp wr si on tw dn p (hbad) (PP_r hP) ((pre_D (va_D_swap hD)).weaken (fun _ _ _ h => hLo _ h))) (cwV 1 hts gL_law_X9_sentAt rfl rfl rfl (by decide +kernel) ⟨(Nat.le_of_ble_eq_true rfl), (Nat.le_of_ble_eq_true rfl)⟩) (preV hC hS hLo (PP_r hP) (ci := 8) (q0 := 0) rfl rfl) rfl rfl hl.1 rfl (lv_room (Nat.le_of_ble_eq_true rfl)) dL_law_680 ⟨by show c0 + _ ≤ 601024; omega, by show s0 + _ ≤ 7293034; omega⟩) hP hD hS hA (fun _ => rfl) (fun r_6 u_4 H locs q_5 hP hD hS => ?_)
  have hP : PP G (lwW G a v mo ki pr df co bi g9 lr bf tn ln nx ct hv v0 k0 v1 k1 oa of mh m1 m2 m3 m4 m5 ss hi sl tx ne (nI 1) kn ke le sp wr si on tw dn) H := hP
  have hD : va_D (lo G) (lwW G a v mo ki pr df co bi g9 lr bf tn ln nx ct hv v0 k0 v1 k1 oa of mh m1 m2 m3 m4 m5 ss hi sl tx ne (nI 1) kn ke le sp wr si on tw dn) := hD
  refine topE (v' := nI (0)) (q_5) ?_
  refine lv_istore (lv' := [(6, .int (nI (0))), (5, .int (nI (1))), (0, .ref bq), (1, .ref (a 0)), (2, .ref mh), (3, .ref oa), (4, .int (nI (i)))]) hx hb dL_law_683 hl (by decide) rfl (fun ls hl => ?_)
  refine lv_aload_n hx hb dL_law_685 rfl (lv_at hl 4 rfl) ?_
  refine kPi (va_runV (As := []) (rest := []) ⟨hx, hb, hml, hown, hts⟩ (c_X9_thrown mh m1 m2 m3 m4 m5 ss hi sl tx ne (nI (1)) kn ke le sp wr si on tw dn (PP_r hP)) (cwV 0 hts gL_law_X9_thrown rfl rfl rfl (by decide +kernel) ⟨(Nat.le_of_ble_eq_true rfl), (Nat.le_of_ble_eq_true rfl)⟩) (preV hC hS hLo (PP_r hP) (ci := 8) (q0 := 0) rfl rfl) rfl rfl hl.1 rfl (lv_room (Nat.le_of_ble_eq_true rfl)) dL_law_686 ⟨by show c0 + _ ≤ 601024; omega, by show s0 + _ ≤ 7293034; omega⟩) hS (fun locs hS => ?_)
  refine lv_iload hx hb dL_law_689 (lv_at hl 1 rfl) ?_
  refine lv_icmp_eq (tgt := 696) hx hb dL_law_691 (by decide) (fun c_7 => ?_) (fun c_7 => ?_)
  · have f_8 := c_7
    refine lv_iload hx hb dL_law_696 (lv_at hl 1 rfl) ?_
    refine lv_if_ne (tgt := 713) hx hb dL_law_698 (by decide) (fun c_9 => ?_) (fun c_9 => ?_)
    · have f_10 : ¬ (1 : Int) = (0 : Int) := fun z => c_9 ((c_eq (nI_toInt (n := 1) (by omega)) rfl).mpr z)
      refine lv_goto (tgt := 1768) hx hb dL_law_713 (by decide) ?_
      exact hk H locs ls hP hD hS (lv_sub hl [2, 3, 4, 5, 6] rfl)
    · have f_11 : (1 : Int) = (0 : Int) := (c_eq (nI_toInt (n := 1) (by omega)) rfl).mp c_9
      exfalso; omega
  · have f_12 := c_7
    exact absurd rfl f_12

set_option maxHeartbeats 4000000 in
set_option maxRecDepth 100000 in
theorem lw_8_ok {pg : Program} {l : Launch} {ev : Env} {s : State} {m : MethodId} {below : List Frame} {meth : Method} {c : Code} {Q : State → Prop} {G : GT} {bq L : Nat} {xs : Nat → Int32} (hLK : LK pg l s m meth c bq L xs G) (c0 s0 : Nat) (hroom : c0 + 1 ≤ 601024 ∧ s0 + 6 ≤ 7293034) (a : Nat → Nat) (v : SVT) (mo ki : Nat → Nat) (pr df : Nat → Int) (co : Int32) (bi : Nat) (g9 : Nat → Int32) (lr : Nat) (bf : Nat → Int) (tn : Nat → Nat) (ln nx ct : Nat) (hv : Nat → SVT) (v0 : SVT) (k0 : Nat) (v1 : SVT) (k1 : Nat) (oa : Nat) (of : Nat → Int64) (mh m1 m2 m3 m4 m5 : Nat) (ss hi sl : Nat → Int) (tx : Nat → Nat) (ne : Nat → Int) (th : Int32) (kn ke le : Nat) (sp wr si on tw dn : Int32) (i : Nat) (p : Nat) (hi5 : i + 5 ≤ L) (ha1 : xs (i + 1) = nI (p)) (hp : p < 64) (heq : iI (ss (128 + p)) = iI (v.2.2.1 p)) {H : Heap} {locs : List Loc} {ls : Array Slot} (hP : PP G (lwW G a v mo ki pr df co bi g9 lr bf tn ln nx ct hv v0 k0 v1 k1 oa of mh m1 m2 m3 m4 m5 ss hi sl tx ne th kn ke le sp wr si on tw dn) H) (hD : va_D (lo G) (lwW G a v mo ki pr df co bi g9 lr bf tn ln nx ct hv v0 k0 v1 k1 oa of mh m1 m2 m3 m4 m5 ss hi sl tx ne th kn ke le sp wr si on tw dn)) (hS : va_S (lo G) s.heap H locs) (hl : lv_has ls 7 [(0, .ref bq), (1, .ref (a 0)), (2, .ref mh), (3, .ref oa), (4, .int (nI (i)))])
    (hk : ∀ (H : Heap) (locs : List Loc) (ls : Array Slot), PP G (lwW G a v mo ki pr df co bi g9 lr bf tn ln nx ct hv v0 k0 v1 k1 oa (vp_updL of 0 ((iI (v.2.2.1 p)).toInt64)) mh m1 m2 m3 m4 m5 ss hi sl tx ne (nI 0) kn ke le sp wr si on tw dn) H → va_D (lo G) (lwW G a v mo ki pr df co bi g9 lr bf tn ln nx ct hv v0 k0 v1 k1 oa (vp_updL of 0 ((iI (v.2.2.1 p)).toInt64)) mh m1 m2 m3 m4 m5 ss hi sl tx ne (nI 0) kn ke le sp wr si on tw dn) → va_S (lo G) s.heap H locs → lv_has ls 7 [(0, .ref bq), (1, .ref (a 0)), (2, .ref mh), (3, .ref oa), (4, .int (nI (i)))] → W pg l ev room_1 s m #[Value.ref bq] below meth c H locs (c0 + 0) (s0 + 0) Q (F0 m 1768 ls [])) :
    W pg l ev room_1 s m #[Value.ref bq] below meth c H locs c0 s0 Q (F0 m 716 ls []) := by
  obtain ⟨hx, hb, hml, hown, hts, hX, hbl, hCX, hgB, hfl, hL9⟩ := hLK
  have hC := hCX.1
  have hLo : ∀ q, lo G q → lo G q := fun _ h => h
  have hA : ∀ q, s.heap.size ≤ q → lo G q := fun q h => by show gB G ≤ q; rw [hgB]; exact h
  have hbA : ¬ lo G bq := by show ¬ gB G ≤ bq; rw [hgB]; omega
  refine lv_aload_n hx hb dL_law_716 rfl (lv_at hl 1 rfl) ?_
  refine lv_aload_n hx hb dL_law_717 rfl (lv_at hl 0 rfl) ?_
  refine lv_iload hx hb dL_law_718 (lv_at hl 4 rfl) ?_
  refine lv_iconst (v := nI (1)) hx hb dL_law_720 (by decide) ?_
  refine gAdd (z := nI (i + 1)) hx hb dL_law_721 (nI_add _ _) ?_
  refine gScr (i := i + 1) (v := nI (p)) hx hb hX hbl hbA hS (by omega) hL9 ha1 dL_law_722 ?_
  refine lv_aload_n hx hb dL_law_723 rfl (lv_at hl 3 rfl) ?_
  refine kPreI (vx_runSW (As := [.ref (a 0), .int (nI (p)), .ref oa]) (rest := []) ⟨hx, hb, hml, hown, hts⟩ (c_L_receivedAt a v mo ki pr df co bi g9 lr bf tn ln nx ct hv v0 k0 v1 k1 oa of p (hp) (PP_l hP) ((pre_D hD).weaken (fun _ _ _ h => hLo _ h))) (vx_cwSW 3 hts gL_law_L_receivedAt rfl rfl rfl (by decide +kernel) ⟨(Nat.le_of_ble_eq_true rfl), (Nat.le_of_ble_eq_true rfl)⟩) (preS hC hS hLo) rfl rfl hl.1 rfl (lv_room (Nat.le_of_ble_eq_true rfl)) dL_law_724 ⟨by show c0 + _ ≤ 601024; omega, by show s0 + _ ≤ 7293034; omega⟩) hP hD hS hA (fun _ => lw_fst) (fun r_3 u_1 H locs q_2 hP hD hS => ?_)
  have hP : PP G (lwW G a v mo ki pr df co bi g9 lr bf tn ln nx ct hv v0 k0 v1 k1 oa (vp_updL of 0 ((iI (v.2.2.1 p)).toInt64)) mh m1 m2 m3 m4 m5 ss hi sl tx ne th kn ke le sp wr si on tw dn) H := hP
  have hD : va_D (lo G) (lwW G a v mo ki pr df co bi g9 lr bf tn ln nx ct hv v0 k0 v1 k1 oa (vp_updL of 0 ((iI (v.2.2.1 p)).toInt64)) mh m1 m2 m3 m4 m5 ss hi sl tx ne th kn ke le sp wr si on tw dn) := hD
  refine topE (v' := nI (0)) (q_2) ?_
  refine lv_istore (lv' := [(5, .int (nI (0))), (0, .ref bq), (1, .ref (a 0)), (2, .ref mh), (3, .ref oa), (4, .int (nI (i)))]) hx hb dL_law_727 hl (by decide) rfl (fun ls hl => ?_)
  refine lv_aload_n hx hb dL_law_729 rfl (lv_at hl 3 rfl) ?_
  refine lv_aload_n hx hb dL_law_730 rfl (lv_at hl 1 rfl) ?_
  refine lv_iload hx hb dL_law_731 (lv_at hl 5 rfl) ?_
  refine lv_iconst (v := nI (1)) hx hb dL_law_733 (by decide) ?_
  refine gAdd (z := nI (i + 1)) hx hb dL_law_734 (nI_add _ _) ?_
  refine gScr (i := i + 1) (v := nI (p)) hx hb hX hbl hbA hS (by omega) hL9 ha1 dL_law_735 ?_
  refine kSufI (va_runV (As := [.int (nI (p))]) (rest := []) ⟨hx, hb, hml, hown, hts⟩ (c_X9_receivedAt mh m1 m2 m3 m4 m5 ss hi sl tx ne th kn ke le sp wr si on tw dn p (hp) (PP_r hP) ((pre_D (va_D_swap hD)).weaken (fun _ _ _ h => hLo _ h))) (cwV 1 hts gL_law_X9_receivedAt rfl rfl rfl (by decide +kernel) ⟨(Nat.le_of_ble_eq_true rfl), (Nat.le_of_ble_eq_true rfl)⟩) (preV hC hS hLo (PP_r hP) (ci := 8) (q0 := 0) rfl rfl) rfl rfl hl.1 rfl (lv_room (Nat.le_of_ble_eq_true rfl)) dL_law_736 ⟨by show c0 + _ ≤ 601024; omega, by show s0 + _ ≤ 7293034; omega⟩) hP hD hS hA (fun _ => rfl) (fun r_6 u_4 H locs q_5 hP hD hS => ?_)
  have hP : PP G (lwW G a v mo ki pr df co bi g9 lr bf tn ln nx ct hv v0 k0 v1 k1 oa (vp_updL of 0 ((iI (v.2.2.1 p)).toInt64)) mh m1 m2 m3 m4 m5 ss hi sl tx ne (nI 0) kn ke le sp wr si on tw dn) H := hP
  have hD : va_D (lo G) (lwW G a v mo ki pr df co bi g9 lr bf tn ln nx ct hv v0 k0 v1 k1 oa (vp_updL of 0 ((iI (v.2.2.1 p)).toInt64)) mh m1 m2 m3 m4 m5 ss hi sl tx ne (nI 0) kn ke le sp wr si on tw dn) := hD
  refine topE (v' := iI (v.2.2.1 p)) (q_5.trans (heq)) ?_
  refine lv_istore (lv' := [(6, .int (iI (v.2.2.1 p))), (5, .int (nI (0))), (0, .ref bq), (1, .ref (a 0)), (2, .ref mh), (3, .ref oa), (4, .int (nI (i)))]) hx hb dL_law_739 hl (by decide) rfl (fun ls hl => ?_)
  refine lv_aload_n hx hb dL_law_741 rfl (lv_at hl 4 rfl) ?_
  refine kPi (va_runV (As := []) (rest := []) ⟨hx, hb, hml, hown, hts⟩ (c_X9_thrown mh m1 m2 m3 m4 m5 ss hi sl tx ne (nI (0)) kn ke le sp wr si on tw dn (PP_r hP)) (cwV 0 hts gL_law_X9_thrown rfl rfl rfl (by decide +kernel) ⟨(Nat.le_of_ble_eq_true rfl), (Nat.le_of_ble_eq_true rfl)⟩) (preV hC hS hLo (PP_r hP) (ci := 8) (q0 := 0) rfl rfl) rfl rfl hl.1 rfl (lv_room (Nat.le_of_ble_eq_true rfl)) dL_law_742 ⟨by show c0 + _ ≤ 601024; omega, by show s0 + _ ≤ 7293034; omega⟩) hS (fun locs hS => ?_)
  refine lv_iload hx hb dL_law_745 (lv_at hl 1 rfl) ?_
  refine lv_icmp_eq (tgt := 752) hx hb dL_law_747 (by decide) (fun c_7 => ?_) (fun c_7 => ?_)
  · have f_8 := c_7
    refine lv_iload hx hb dL_law_752 (lv_at hl 1 rfl) ?_
    refine lv_if_ne (tgt := 769) hx hb dL_law_754 (by decide) (fun c_9 => ?_) (fun c_9 => ?_)
    · have f_10 : ¬ (0 : Int) = (0 : Int) := fun z => c_9 ((c_eq (nI_toInt (n := 0) (by omega)) rfl).mpr z)
      exfalso; omega
    · have f_11 : (0 : Int) = (0 : Int) := (c_eq (nI_toInt (n := 0) (by omega)) rfl).mp c_9
      refine lv_aload_n hx hb dL_law_757 rfl (lv_at hl 5 rfl) ?_
      refine lv_iconst (v := nI (0)) hx hb dL_law_758 (by decide) ?_
      refine gLald (j := 0) hx hb hC.K (PP_r (PP_l hP)) 0 4 rfl rfl rfl (by decide) (by decide) dL_law_759 ?_
      refine W.eq (g2 := F0 m 760 ls [.long ((iI (v.2.2.1 p)).toInt64)]) rfl ?_
      refine lv_iload hx hb dL_law_760 (lv_at hl 0 rfl) ?_
      refine lv_i2l (v := (iI (v.2.2.1 p)).toInt64) hx hb dL_law_762 (rfl) ?_
      refine W.lcmp hx hb dL_law_763 ?_
      refine topE (v' := nI (0)) (lg_self _) ?_
      refine lv_if_eq (tgt := 769) hx hb dL_law_764 (by decide) (fun c_12 => ?_) (fun c_12 => ?_)
      · have f_13 : (0 : Int) = (0 : Int) := (c_eq (nI_toInt (n := 0) (by omega)) rfl).mp c_12
        refine lv_goto (tgt := 1768) hx hb dL_law_769 (by decide) ?_
        exact hk H locs ls hP hD hS (lv_sub hl [2, 3, 4, 5, 6] rfl)
      · have f_14 : ¬ (0 : Int) = (0 : Int) := fun z => c_12 ((c_eq (nI_toInt (n := 0) (by omega)) rfl).mpr z)
        exfalso; omega
  · have f_15 := c_7
    exact absurd rfl f_15

set_option maxHeartbeats 4000000 in
set_option maxRecDepth 100000 in
theorem lw_8_x1 {pg : Program} {l : Launch} {ev : Env} {s : State} {m : MethodId} {below : List Frame} {meth : Method} {c : Code} {Q : State → Prop} {G : GT} {bq L : Nat} {xs : Nat → Int32} (hLK : LK pg l s m meth c bq L xs G) (c0 s0 : Nat) (hroom : c0 + 1 ≤ 601024 ∧ s0 + 6 ≤ 7293034) (a : Nat → Nat) (v : SVT) (mo ki : Nat → Nat) (pr df : Nat → Int) (co : Int32) (bi : Nat) (g9 : Nat → Int32) (lr : Nat) (bf : Nat → Int) (tn : Nat → Nat) (ln nx ct : Nat) (hv : Nat → SVT) (v0 : SVT) (k0 : Nat) (v1 : SVT) (k1 : Nat) (oa : Nat) (of : Nat → Int64) (mh m1 m2 m3 m4 m5 : Nat) (ss hi sl : Nat → Int) (tx : Nat → Nat) (ne : Nat → Int) (th : Int32) (kn ke le : Nat) (sp wr si on tw dn : Int32) (i : Nat) (p : Int32) (hi5 : i + 5 ≤ L) (ha1 : xs (i + 1) = p) (hbad : p.toInt < 0 ∨ 64 ≤ p.toInt) {H : Heap} {locs : List Loc} {ls : Array Slot} (hP : PP G (lwW G a v mo ki pr df co bi g9 lr bf tn ln nx ct hv v0 k0 v1 k1 oa of mh m1 m2 m3 m4 m5 ss hi sl tx ne th kn ke le sp wr si on tw dn) H) (hD : va_D (lo G) (lwW G a v mo ki pr df co bi g9 lr bf tn ln nx ct hv v0 k0 v1 k1 oa of mh m1 m2 m3 m4 m5 ss hi sl tx ne th kn ke le sp wr si on tw dn)) (hS : va_S (lo G) s.heap H locs) (hl : lv_has ls 7 [(0, .ref bq), (1, .ref (a 0)), (2, .ref mh), (3, .ref oa), (4, .int (nI (i)))])
    (hk : ∀ (H : Heap) (locs : List Loc) (ls : Array Slot), PP G (lwW G a v mo ki pr df co bi g9 lr bf tn ln nx ct hv v0 k0 v1 k1 oa of mh m1 m2 m3 m4 m5 ss hi sl tx ne (nI 1) kn ke le sp wr si on tw dn) H → va_D (lo G) (lwW G a v mo ki pr df co bi g9 lr bf tn ln nx ct hv v0 k0 v1 k1 oa of mh m1 m2 m3 m4 m5 ss hi sl tx ne (nI 1) kn ke le sp wr si on tw dn) → va_S (lo G) s.heap H locs → lv_has ls 7 [(0, .ref bq), (1, .ref (a 0)), (2, .ref mh), (3, .ref oa), (4, .int (nI (i)))] → W pg l ev room_1 s m #[Value.ref bq] below meth c H locs (c0 + 1) (s0 + 6) Q (F0 m 1768 ls [])) :
    W pg l ev room_1 s m #[Value.ref bq] below meth c H locs c0 s0 Q (F0 m 716 ls []) := by
  obtain ⟨hx, hb, hml, hown, hts, hX, hbl, hCX, hgB, hfl, hL9⟩ := hLK
  have hC := hCX.1
  have hLo : ∀ q, lo G q → lo G q := fun _ h => h
  have hA : ∀ q, s.heap.size ≤ q → lo G q := fun q h => by show gB G ≤ q; rw [hgB]; exact h
  have hbA : ¬ lo G bq := by show ¬ gB G ≤ bq; rw [hgB]; omega
  refine lv_aload_n hx hb dL_law_716 rfl (lv_at hl 1 rfl) ?_
  refine lv_aload_n hx hb dL_law_717 rfl (lv_at hl 0 rfl) ?_
  refine lv_iload hx hb dL_law_718 (lv_at hl 4 rfl) ?_
  refine lv_iconst (v := nI (1)) hx hb dL_law_720 (by decide) ?_
  refine gAdd (z := nI (i + 1)) hx hb dL_law_721 (nI_add _ _) ?_
  refine gScr (i := i + 1) (v := p) hx hb hX hbl hbA hS (by omega) hL9 ha1 dL_law_722 ?_
  refine lv_aload_n hx hb dL_law_723 rfl (lv_at hl 3 rfl) ?_
  refine kPreI (vx_runSW (As := [.ref (a 0), .int (p), .ref oa]) (rest := []) ⟨hx, hb, hml, hown, hts⟩ (c_L_receivedAt_1 a v mo ki pr df co bi g9 lr bf tn ln nx ct hv v0 k0 v1 k1 oa of p (hbad) hfl (PP_l hP) ((pre_D hD).weaken (fun _ _ _ h => hLo _ h))) (vx_cwSW 3 hts gL_law_L_receivedAt rfl rfl rfl (by decide +kernel) ⟨(Nat.le_of_ble_eq_true rfl), (Nat.le_of_ble_eq_true rfl)⟩) (preSX hCX hS hLo) rfl rfl hl.1 rfl (lv_room (Nat.le_of_ble_eq_true rfl)) dL_law_724 ⟨by show c0 + _ ≤ 601024; omega, by show s0 + _ ≤ 7293034; omega⟩) hP hD hS hA (fun _ => lw_fst) (fun r_3 u_1 H locs q_2 hP hD hS => ?_)
  have hP : PP G (lwW G a v mo ki pr df co bi g9 lr bf tn ln nx ct hv v0 k0 v1 k1 oa of mh m1 m2 m3 m4 m5 ss hi sl tx ne th kn ke le sp wr si on tw dn) H := hP
  have hD : va_D (lo G) (lwW G a v mo ki pr df co bi g9 lr bf tn ln nx ct hv v0 k0 v1 k1 oa of mh m1 m2 m3 m4 m5 ss hi sl tx ne th kn ke le sp wr si on tw dn) := hD
  refine topE (v' := nI (1)) (q_2) ?_
  refine lv_istore (lv' := [(5, .int (nI (1))), (0, .ref bq), (1, .ref (a 0)), (2, .ref mh), (3, .ref oa), (4, .int (nI (i)))]) hx hb dL_law_727 hl (by decide) rfl (fun ls hl => ?_)
  refine lv_aload_n hx hb dL_law_729 rfl (lv_at hl 3 rfl) ?_
  refine lv_aload_n hx hb dL_law_730 rfl (lv_at hl 1 rfl) ?_
  refine lv_iload hx hb dL_law_731 (lv_at hl 5 rfl) ?_
  refine lv_iconst (v := nI (1)) hx hb dL_law_733 (by decide) ?_
  refine gAdd (z := nI (i + 1)) hx hb dL_law_734 (nI_add _ _) ?_
  refine gScr (i := i + 1) (v := p) hx hb hX hbl hbA hS (by omega) hL9 ha1 dL_law_735 ?_
  refine kSufI (va_runV (As := [.int (p)]) (rest := []) ⟨hx, hb, hml, hown, hts⟩ (c_X9_receivedAt_1 mh m1 m2 m3 m4 m5 ss hi sl tx ne th kn ke le sp wr si on tw dn p (hbad) (PP_r hP) ((pre_D (va_D_swap hD)).weaken (fun _ _ _ h => hLo _ h))) (cwV 1 hts gL_law_X9_receivedAt rfl rfl rfl (by decide +kernel) ⟨(Nat.le_of_ble_eq_true rfl), (Nat.le_of_ble_eq_true rfl)⟩) (preV hC hS hLo (PP_r hP) (ci := 8) (q0 := 0) rfl rfl) rfl rfl hl.1 rfl (lv_room (Nat.le_of_ble_eq_true rfl)) dL_law_736 ⟨by show c0 + _ ≤ 601024; omega, by show s0 + _ ≤ 7293034; omega⟩) hP hD hS hA (fun _ => rfl) (fun r_6 u_4 H locs q_5 hP hD hS => ?_)
  have hP : PP G (lwW G a v mo ki pr df co bi g9 lr bf tn ln nx ct hv v0 k0 v1 k1 oa of mh m1 m2 m3 m4 m5 ss hi sl tx ne (nI 1) kn ke le sp wr si on tw dn) H := hP
  have hD : va_D (lo G) (lwW G a v mo ki pr df co bi g9 lr bf tn ln nx ct hv v0 k0 v1 k1 oa of mh m1 m2 m3 m4 m5 ss hi sl tx ne (nI 1) kn ke le sp wr si on tw dn) := hD
  refine topE (v' := nI (0)) (q_5) ?_
  refine lv_istore (lv' := [(6, .int (nI (0))), (5, .int (nI (1))), (0, .ref bq), (1, .ref (a 0)), (2, .ref mh), (3, .ref oa), (4, .int (nI (i)))]) hx hb dL_law_739 hl (by decide) rfl (fun ls hl => ?_)
  refine lv_aload_n hx hb dL_law_741 rfl (lv_at hl 4 rfl) ?_
  refine kPi (va_runV (As := []) (rest := []) ⟨hx, hb, hml, hown, hts⟩ (c_X9_thrown mh m1 m2 m3 m4 m5 ss hi sl tx ne (nI (1)) kn ke le sp wr si on tw dn (PP_r hP)) (cwV 0 hts gL_law_X9_thrown rfl rfl rfl (by decide +kernel) ⟨(Nat.le_of_ble_eq_true rfl), (Nat.le_of_ble_eq_true rfl)⟩) (preV hC hS hLo (PP_r hP) (ci := 8) (q0 := 0) rfl rfl) rfl rfl hl.1 rfl (lv_room (Nat.le_of_ble_eq_true rfl)) dL_law_742 ⟨by show c0 + _ ≤ 601024; omega, by show s0 + _ ≤ 7293034; omega⟩) hS (fun locs hS => ?_)
  refine lv_iload hx hb dL_law_745 (lv_at hl 1 rfl) ?_
  refine lv_icmp_eq (tgt := 752) hx hb dL_law_747 (by decide) (fun c_7 => ?_) (fun c_7 => ?_)
  · have f_8 := c_7
    refine lv_iload hx hb dL_law_752 (lv_at hl 1 rfl) ?_
    refine lv_if_ne (tgt := 769) hx hb dL_law_754 (by decide) (fun c_9 => ?_) (fun c_9 => ?_)
    · have f_10 : ¬ (1 : Int) = (0 : Int) := fun z => c_9 ((c_eq (nI_toInt (n := 1) (by omega)) rfl).mpr z)
      refine lv_goto (tgt := 1768) hx hb dL_law_769 (by decide) ?_
      exact hk H locs ls hP hD hS (lv_sub hl [2, 3, 4, 5, 6] rfl)
    · have f_11 : (1 : Int) = (0 : Int) := (c_eq (nI_toInt (n := 1) (by omega)) rfl).mp c_9
      exfalso; omega
  · have f_12 := c_7
    exact absurd rfl f_12

set_option maxHeartbeats 4000000 in
set_option maxRecDepth 100000 in
theorem lw_9_ok {pg : Program} {l : Launch} {ev : Env} {s : State} {m : MethodId} {below : List Frame} {meth : Method} {c : Code} {Q : State → Prop} {G : GT} {bq L : Nat} {xs : Nat → Int32} (hLK : LK pg l s m meth c bq L xs G) (c0 s0 : Nat) (hroom : c0 + 1 ≤ 601024 ∧ s0 + 6 ≤ 7293034) (a : Nat → Nat) (v : SVT) (mo ki : Nat → Nat) (pr df : Nat → Int) (co : Int32) (bi : Nat) (g9 : Nat → Int32) (lr : Nat) (bf : Nat → Int) (tn : Nat → Nat) (ln nx ct : Nat) (hv : Nat → SVT) (v0 : SVT) (k0 : Nat) (v1 : SVT) (k1 : Nat) (oa : Nat) (of : Nat → Int64) (mh m1 m2 m3 m4 m5 : Nat) (ss hi sl : Nat → Int) (tx : Nat → Nat) (ne : Nat → Int) (th : Int32) (kn ke le : Nat) (sp wr si on tw dn : Int32) (i : Nat) (hi5 : i + 5 ≤ L) (hd : R15 v.1) (ht : R15 v.2.1) (hg : R15 v.2.2.1) (hMR : MR ss) (heq : iI (sZ (fun j => (ss j - ss (64 + j)) * (ss j - ss (64 + j))) 64) = iI (sZ (fun j => (v.1 j - v.2.1 j) * (v.1 j - v.2.1 j)) 64)) {H : Heap} {locs : List Loc} {ls : Array Slot} (hP : PP G (lwW G a v mo ki pr df co bi g9 lr bf tn ln nx ct hv v0 k0 v1 k1 oa of mh m1 m2 m3 m4 m5 ss hi sl tx ne th kn ke le sp wr si on tw dn) H) (hD : va_D (lo G) (lwW G a v mo ki pr df co bi g9 lr bf tn ln nx ct hv v0 k0 v1 k1 oa of mh m1 m2 m3 m4 m5 ss hi sl tx ne th kn ke le sp wr si on tw dn)) (hS : va_S (lo G) s.heap H locs) (hl : lv_has ls 7 [(0, .ref bq), (1, .ref (a 0)), (2, .ref mh), (3, .ref oa), (4, .int (nI (i)))])
    (hk : ∀ (H : Heap) (locs : List Loc) (ls : Array Slot), PP G (lwW G a v mo ki pr df co bi g9 lr bf tn ln nx ct hv v0 k0 v1 k1 oa of mh m1 m2 m3 m4 m5 ss hi sl tx ne (nI 0) kn ke le sp wr si on tw dn) H → va_D (lo G) (lwW G a v mo ki pr df co bi g9 lr bf tn ln nx ct hv v0 k0 v1 k1 oa of mh m1 m2 m3 m4 m5 ss hi sl tx ne (nI 0) kn ke le sp wr si on tw dn) → va_S (lo G) s.heap H locs → lv_has ls 7 [(0, .ref bq), (1, .ref (a 0)), (2, .ref mh), (3, .ref oa), (4, .int (nI (i)))] → W pg l ev room_1 s m #[Value.ref bq] below meth c H locs (c0 + 0) (s0 + 0) Q (F0 m 1768 ls [])) :
    W pg l ev room_1 s m #[Value.ref bq] below meth c H locs c0 s0 Q (F0 m 772 ls []) := by
  obtain ⟨hx, hb, hml, hown, hts, hX, hbl, hCX, hgB, hfl, hL9⟩ := hLK
  have hC := hCX.1
  have hLo : ∀ q, lo G q → lo G q := fun _ h => h
  have hA : ∀ q, s.heap.size ≤ q → lo G q := fun q h => by show gB G ≤ q; rw [hgB]; exact h
  have hbA : ¬ lo G bq := by show ¬ gB G ≤ bq; rw [hgB]; omega
  refine lv_aload_n hx hb dL_law_772 rfl (lv_at hl 1 rfl) ?_
  refine kPi (va_runV (As := []) (rest := []) ⟨hx, hb, hml, hown, hts⟩ (c_X8_error a v (hd) (ht) (hg) (xW_now (PP_l (PP_l hP)))) (cwV 0 hts gL_law_X8_error rfl rfl rfl (by decide +kernel) ⟨(Nat.le_of_ble_eq_true rfl), (Nat.le_of_ble_eq_true rfl)⟩) (preV hC hS hLo hP (ci := 7) (q0 := 0) rfl rfl) rfl rfl hl.1 rfl (lv_room (Nat.le_of_ble_eq_true rfl)) dL_law_773 ⟨by show c0 + _ ≤ 601024; omega, by show s0 + _ ≤ 7293034; omega⟩) hS (fun locs hS => ?_)
  refine lv_aload_n hx hb dL_law_776 rfl (lv_at hl 2 rfl) ?_
  refine kSufI (va_runV (As := []) (rest := [.int (iI (sZ (fun j => (v.1 j - v.2.1 j) * (v.1 j - v.2.1 j)) 64))]) ⟨hx, hb, hml, hown, hts⟩ (c_X9_error mh m1 m2 m3 m4 m5 ss hi sl tx ne th kn ke le sp wr si on tw dn (hMR) (PP_r hP) ((pre_D (va_D_swap hD)).weaken (fun _ _ _ h => hLo _ h))) (cwV 0 hts gL_law_X9_error rfl rfl rfl (by decide +kernel) ⟨(Nat.le_of_ble_eq_true rfl), (Nat.le_of_ble_eq_true rfl)⟩) (preV hC hS hLo (PP_r hP) (ci := 8) (q0 := 0) rfl rfl) rfl rfl hl.1 rfl (lv_room (Nat.le_of_ble_eq_true rfl)) dL_law_777 ⟨by show c0 + _ ≤ 601024; omega, by show s0 + _ ≤ 7293034; omega⟩) hP hD hS hA (fun _ => rfl) (fun r_3 u_1 H locs q_2 hP hD hS => ?_)
  have hP : PP G (lwW G a v mo ki pr df co bi g9 lr bf tn ln nx ct hv v0 k0 v1 k1 oa of mh m1 m2 m3 m4 m5 ss hi sl tx ne (nI 0) kn ke le sp wr si on tw dn) H := hP
  have hD : va_D (lo G) (lwW G a v mo ki pr df co bi g9 lr bf tn ln nx ct hv v0 k0 v1 k1 oa of mh m1 m2 m3 m4 m5 ss hi sl tx ne (nI 0) kn ke le sp wr si on tw dn) := hD
  refine topE (v' := iI (sZ (fun j => (v.1 j - v.2.1 j) * (v.1 j - v.2.1 j)) 64)) (q_2.trans (heq)) ?_
  refine lv_icmp_eq (tgt := 1768) hx hb dL_law_780 (by decide) (fun c_4 => ?_) (fun c_4 => ?_)
  · have f_5 := c_4
    exact hk H locs ls hP hD hS (lv_sub hl [0, 1, 2, 3, 4] rfl)
  · have f_6 := c_4
    exact absurd rfl f_6

set_option maxHeartbeats 4000000 in
set_option maxRecDepth 100000 in
theorem lw_10_ok {pg : Program} {l : Launch} {ev : Env} {s : State} {m : MethodId} {below : List Frame} {meth : Method} {c : Code} {Q : State → Prop} {G : GT} {bq L : Nat} {xs : Nat → Int32} (hLK : LK pg l s m meth c bq L xs G) (c0 s0 : Nat) (hroom : c0 + 1 ≤ 601024 ∧ s0 + 6 ≤ 7293034) (a : Nat → Nat) (v : SVT) (mo ki : Nat → Nat) (pr df : Nat → Int) (co : Int32) (bi : Nat) (g9 : Nat → Int32) (lr : Nat) (bf : Nat → Int) (tn : Nat → Nat) (ln nx ct : Nat) (hv : Nat → SVT) (v0 : SVT) (k0 : Nat) (v1 : SVT) (k1 : Nat) (oa : Nat) (of : Nat → Int64) (mh m1 m2 m3 m4 m5 : Nat) (ss hi sl : Nat → Int) (tx : Nat → Nat) (ne : Nat → Int) (th : Int32) (kn ke le : Nat) (sp wr si on tw dn : Int32) (i : Nat) (hi5 : i + 5 ≤ L) (hd : R15 v.1) (ht : R15 v.2.1) (hg : R15 v.2.2.1) (hMR : MR ss) (heq : iI (sZ (fun j => ((ss (64 + j) - ss (128 + j)).natAbs : Int)) 64) = iI (sZ (fun j => ((v.2.1 j - v.2.2.1 j).natAbs : Int)) 64)) {H : Heap} {locs : List Loc} {ls : Array Slot} (hP : PP G (lwW G a v mo ki pr df co bi g9 lr bf tn ln nx ct hv v0 k0 v1 k1 oa of mh m1 m2 m3 m4 m5 ss hi sl tx ne th kn ke le sp wr si on tw dn) H) (hD : va_D (lo G) (lwW G a v mo ki pr df co bi g9 lr bf tn ln nx ct hv v0 k0 v1 k1 oa of mh m1 m2 m3 m4 m5 ss hi sl tx ne th kn ke le sp wr si on tw dn)) (hS : va_S (lo G) s.heap H locs) (hl : lv_has ls 7 [(0, .ref bq), (1, .ref (a 0)), (2, .ref mh), (3, .ref oa), (4, .int (nI (i)))])
    (hk : ∀ (H : Heap) (locs : List Loc) (ls : Array Slot), PP G (lwW G a v mo ki pr df co bi g9 lr bf tn ln nx ct hv v0 k0 v1 k1 oa of mh m1 m2 m3 m4 m5 ss hi sl tx ne (nI 0) kn ke le sp wr si on tw dn) H → va_D (lo G) (lwW G a v mo ki pr df co bi g9 lr bf tn ln nx ct hv v0 k0 v1 k1 oa of mh m1 m2 m3 m4 m5 ss hi sl tx ne (nI 0) kn ke le sp wr si on tw dn) → va_S (lo G) s.heap H locs → lv_has ls 7 [(0, .ref bq), (1, .ref (a 0)), (2, .ref mh), (3, .ref oa), (4, .int (nI (i)))] → W pg l ev room_1 s m #[Value.ref bq] below meth c H locs (c0 + 0) (s0 + 0) Q (F0 m 1768 ls [])) :
    W pg l ev room_1 s m #[Value.ref bq] below meth c H locs c0 s0 Q (F0 m 785 ls []) := by
  obtain ⟨hx, hb, hml, hown, hts, hX, hbl, hCX, hgB, hfl, hL9⟩ := hLK
  have hC := hCX.1
  have hLo : ∀ q, lo G q → lo G q := fun _ h => h
  have hA : ∀ q, s.heap.size ≤ q → lo G q := fun q h => by show gB G ≤ q; rw [hgB]; exact h
  have hbA : ¬ lo G bq := by show ¬ gB G ≤ bq; rw [hgB]; omega
  refine lv_aload_n hx hb dL_law_785 rfl (lv_at hl 1 rfl) ?_
  refine kPi (va_runV (As := []) (rest := []) ⟨hx, hb, hml, hown, hts⟩ (c_X8_drift a v (hd) (ht) (hg) (xW_now (PP_l (PP_l hP)))) (cwV 0 hts gL_law_X8_drift rfl rfl rfl (by decide +kernel) ⟨(Nat.le_of_ble_eq_true rfl), (Nat.le_of_ble_eq_true rfl)⟩) (preV hC hS hLo hP (ci := 7) (q0 := 0) rfl rfl) rfl rfl hl.1 rfl (lv_room (Nat.le_of_ble_eq_true rfl)) dL_law_786 ⟨by show c0 + _ ≤ 601024; omega, by show s0 + _ ≤ 7293034; omega⟩) hS (fun locs hS => ?_)
  refine lv_aload_n hx hb dL_law_789 rfl (lv_at hl 2 rfl) ?_
  refine kSufI (va_runV (As := []) (rest := [.int (iI (sZ (fun j => ((v.2.1 j - v.2.2.1 j).natAbs : Int)) 64))]) ⟨hx, hb, hml, hown, hts⟩ (c_X9_drift mh m1 m2 m3 m4 m5 ss hi sl tx ne th kn ke le sp wr si on tw dn (hMR) (PP_r hP) ((pre_D (va_D_swap hD)).weaken (fun _ _ _ h => hLo _ h))) (cwV 0 hts gL_law_X9_drift rfl rfl rfl (by decide +kernel) ⟨(Nat.le_of_ble_eq_true rfl), (Nat.le_of_ble_eq_true rfl)⟩) (preV hC hS hLo (PP_r hP) (ci := 8) (q0 := 0) rfl rfl) rfl rfl hl.1 rfl (lv_room (Nat.le_of_ble_eq_true rfl)) dL_law_790 ⟨by show c0 + _ ≤ 601024; omega, by show s0 + _ ≤ 7293034; omega⟩) hP hD hS hA (fun _ => rfl) (fun r_3 u_1 H locs q_2 hP hD hS => ?_)
  have hP : PP G (lwW G a v mo ki pr df co bi g9 lr bf tn ln nx ct hv v0 k0 v1 k1 oa of mh m1 m2 m3 m4 m5 ss hi sl tx ne (nI 0) kn ke le sp wr si on tw dn) H := hP
  have hD : va_D (lo G) (lwW G a v mo ki pr df co bi g9 lr bf tn ln nx ct hv v0 k0 v1 k1 oa of mh m1 m2 m3 m4 m5 ss hi sl tx ne (nI 0) kn ke le sp wr si on tw dn) := hD
  refine topE (v' := iI (sZ (fun j => ((v.2.1 j - v.2.2.1 j).natAbs : Int)) 64)) (q_2.trans (heq)) ?_
  refine lv_icmp_eq (tgt := 1768) hx hb dL_law_793 (by decide) (fun c_4 => ?_) (fun c_4 => ?_)
  · have f_5 := c_4
    exact hk H locs ls hP hD hS (lv_sub hl [0, 1, 2, 3, 4] rfl)
  · have f_6 := c_4
    exact absurd rfl f_6

set_option maxHeartbeats 4000000 in
set_option maxRecDepth 100000 in
theorem lw_11_ok {pg : Program} {l : Launch} {ev : Env} {s : State} {m : MethodId} {below : List Frame} {meth : Method} {c : Code} {Q : State → Prop} {G : GT} {bq L : Nat} {xs : Nat → Int32} (hLK : LK pg l s m meth c bq L xs G) (c0 s0 : Nat) (hroom : c0 + 1 ≤ 601024 ∧ s0 + 6 ≤ 7293034) (a : Nat → Nat) (v : SVT) (mo ki : Nat → Nat) (pr df : Nat → Int) (co : Int32) (bi : Nat) (g9 : Nat → Int32) (lr : Nat) (bf : Nat → Int) (tn : Nat → Nat) (ln nx ct : Nat) (hv : Nat → SVT) (v0 : SVT) (k0 : Nat) (v1 : SVT) (k1 : Nat) (oa : Nat) (of : Nat → Int64) (mh m1 m2 m3 m4 m5 : Nat) (ss hi sl : Nat → Int) (tx : Nat → Nat) (ne : Nat → Int) (th : Int32) (kn ke le : Nat) (sp wr si on tw dn : Int32) (i : Nat) (b mv : Nat) (hi5 : i + 5 ≤ L) (ha1 : xs (i + 1) = nI (b)) (ha2 : xs (i + 2) = nI (mv)) (hd : R15 v.1) (ht : R15 v.2.1) (hb4 : b < 4) (hm : mv < 25) (hMR : MR ss) (heq : iI (DIST (dS ss) (tS ss) b mv) = iI (DIST v.1 v.2.1 b mv)) {H : Heap} {locs : List Loc} {ls : Array Slot} (hP : PP G (lwW G a v mo ki pr df co bi g9 lr bf tn ln nx ct hv v0 k0 v1 k1 oa of mh m1 m2 m3 m4 m5 ss hi sl tx ne th kn ke le sp wr si on tw dn) H) (hD : va_D (lo G) (lwW G a v mo ki pr df co bi g9 lr bf tn ln nx ct hv v0 k0 v1 k1 oa of mh m1 m2 m3 m4 m5 ss hi sl tx ne th kn ke le sp wr si on tw dn)) (hS : va_S (lo G) s.heap H locs) (hl : lv_has ls 7 [(0, .ref bq), (1, .ref (a 0)), (2, .ref mh), (3, .ref oa), (4, .int (nI (i)))])
    (hk : ∀ (H : Heap) (locs : List Loc) (ls : Array Slot), PP G (lwW G a v mo ki pr df co bi g9 lr bf tn ln nx ct hv v0 k0 v1 k1 oa (vp_updL of 0 ((iI (DIST v.1 v.2.1 b mv)).toInt64)) mh m1 m2 m3 m4 m5 ss hi sl tx ne (nI 0) kn ke le sp wr si on tw dn) H → va_D (lo G) (lwW G a v mo ki pr df co bi g9 lr bf tn ln nx ct hv v0 k0 v1 k1 oa (vp_updL of 0 ((iI (DIST v.1 v.2.1 b mv)).toInt64)) mh m1 m2 m3 m4 m5 ss hi sl tx ne (nI 0) kn ke le sp wr si on tw dn) → va_S (lo G) s.heap H locs → lv_has ls 7 [(0, .ref bq), (1, .ref (a 0)), (2, .ref mh), (3, .ref oa), (4, .int (nI (i)))] → W pg l ev room_1 s m #[Value.ref bq] below meth c H locs (c0 + 0) (s0 + 0) Q (F0 m 1768 ls [])) :
    W pg l ev room_1 s m #[Value.ref bq] below meth c H locs c0 s0 Q (F0 m 798 ls []) := by
  obtain ⟨hx, hb, hml, hown, hts, hX, hbl, hCX, hgB, hfl, hL9⟩ := hLK
  have hC := hCX.1
  have hLo : ∀ q, lo G q → lo G q := fun _ h => h
  have hA : ∀ q, s.heap.size ≤ q → lo G q := fun q h => by show gB G ≤ q; rw [hgB]; exact h
  have hbA : ¬ lo G bq := by show ¬ gB G ≤ bq; rw [hgB]; omega
  refine lv_aload_n hx hb dL_law_798 rfl (lv_at hl 1 rfl) ?_
  refine lv_aload_n hx hb dL_law_799 rfl (lv_at hl 0 rfl) ?_
  refine lv_iload hx hb dL_law_800 (lv_at hl 4 rfl) ?_
  refine lv_iconst (v := nI (1)) hx hb dL_law_802 (by decide) ?_
  refine gAdd (z := nI (i + 1)) hx hb dL_law_803 (nI_add _ _) ?_
  refine gScr (i := i + 1) (v := nI (b)) hx hb hX hbl hbA hS (by omega) hL9 ha1 dL_law_804 ?_
  refine lv_aload_n hx hb dL_law_805 rfl (lv_at hl 0 rfl) ?_
  refine lv_iload hx hb dL_law_806 (lv_at hl 4 rfl) ?_
  refine lv_iconst (v := nI (2)) hx hb dL_law_808 (by decide) ?_
  refine gAdd (z := nI (i + 2)) hx hb dL_law_809 (nI_add _ _) ?_
  refine gScr (i := i + 2) (v := nI (mv)) hx hb hX hbl hbA hS (by omega) hL9 ha2 dL_law_810 ?_
  refine lv_aload_n hx hb dL_law_811 rfl (lv_at hl 3 rfl) ?_
  refine kPreI (vx_runSW (As := [.ref (a 0), .int (nI (b)), .int (nI (mv)), .ref oa]) (rest := []) ⟨hx, hb, hml, hown, hts⟩ (c_L_distance a v mo ki pr df co bi g9 lr bf tn ln nx ct hv v0 k0 v1 k1 oa of b mv (hd) (ht) (hb4) (hm) (PP_l hP) ((pre_D hD).weaken (fun _ _ _ h => hLo _ h))) (vx_cwSW 4 hts gL_law_L_distance rfl rfl rfl (by decide +kernel) ⟨(Nat.le_of_ble_eq_true rfl), (Nat.le_of_ble_eq_true rfl)⟩) (preS hC hS hLo) rfl rfl hl.1 rfl (lv_room (Nat.le_of_ble_eq_true rfl)) dL_law_812 ⟨by show c0 + _ ≤ 601024; omega, by show s0 + _ ≤ 7293034; omega⟩) hP hD hS hA (fun _ => lw_fst) (fun r_3 u_1 H locs q_2 hP hD hS => ?_)
  have hP : PP G (lwW G a v mo ki pr df co bi g9 lr bf tn ln nx ct hv v0 k0 v1 k1 oa (vp_updL of 0 ((iI (DIST v.1 v.2.1 b mv)).toInt64)) mh m1 m2 m3 m4 m5 ss hi sl tx ne th kn ke le sp wr si on tw dn) H := hP
  have hD : va_D (lo G) (lwW G a v mo ki pr df co bi g9 lr bf tn ln nx ct hv v0 k0 v1 k1 oa (vp_updL of 0 ((iI (DIST v.1 v.2.1 b mv)).toInt64)) mh m1 m2 m3 m4 m5 ss hi sl tx ne th kn ke le sp wr si on tw dn) := hD
  refine topE (v' := nI (0)) (q_2) ?_
  refine lv_istore (lv' := [(5, .int (nI (0))), (0, .ref bq), (1, .ref (a 0)), (2, .ref mh), (3, .ref oa), (4, .int (nI (i)))]) hx hb dL_law_815 hl (by decide) rfl (fun ls hl => ?_)
  refine lv_aload_n hx hb dL_law_817 rfl (lv_at hl 3 rfl) ?_
  refine lv_aload_n hx hb dL_law_818 rfl (lv_at hl 1 rfl) ?_
  refine lv_iload hx hb dL_law_819 (lv_at hl 5 rfl) ?_
  refine lv_iconst (v := nI (1)) hx hb dL_law_821 (by decide) ?_
  refine gAdd (z := nI (i + 1)) hx hb dL_law_822 (nI_add _ _) ?_
  refine gScr (i := i + 1) (v := nI (b)) hx hb hX hbl hbA hS (by omega) hL9 ha1 dL_law_823 ?_
  refine lv_aload_n hx hb dL_law_824 rfl (lv_at hl 1 rfl) ?_
  refine lv_iload hx hb dL_law_825 (lv_at hl 5 rfl) ?_
  refine lv_iconst (v := nI (2)) hx hb dL_law_827 (by decide) ?_
  refine gAdd (z := nI (i + 2)) hx hb dL_law_828 (nI_add _ _) ?_
  refine gScr (i := i + 2) (v := nI (mv)) hx hb hX hbl hbA hS (by omega) hL9 ha2 dL_law_829 ?_
  refine kSufI (va_runV (As := [.int (nI (b)), .int (nI (mv))]) (rest := []) ⟨hx, hb, hml, hown, hts⟩ (c_X9_distance mh m1 m2 m3 m4 m5 ss hi sl tx ne th kn ke le sp wr si on tw dn b mv (hMR) (hb4) (hm) (PP_r hP) ((pre_D (va_D_swap hD)).weaken (fun _ _ _ h => hLo _ h))) (cwV 2 hts gL_law_X9_distance rfl rfl rfl (by decide +kernel) ⟨(Nat.le_of_ble_eq_true rfl), (Nat.le_of_ble_eq_true rfl)⟩) (preV hC hS hLo (PP_r hP) (ci := 8) (q0 := 0) rfl rfl) rfl rfl hl.1 rfl (lv_room (Nat.le_of_ble_eq_true rfl)) dL_law_830 ⟨by show c0 + _ ≤ 601024; omega, by show s0 + _ ≤ 7293034; omega⟩) hP hD hS hA (fun _ => rfl) (fun r_6 u_4 H locs q_5 hP hD hS => ?_)
  have hP : PP G (lwW G a v mo ki pr df co bi g9 lr bf tn ln nx ct hv v0 k0 v1 k1 oa (vp_updL of 0 ((iI (DIST v.1 v.2.1 b mv)).toInt64)) mh m1 m2 m3 m4 m5 ss hi sl tx ne (nI 0) kn ke le sp wr si on tw dn) H := hP
  have hD : va_D (lo G) (lwW G a v mo ki pr df co bi g9 lr bf tn ln nx ct hv v0 k0 v1 k1 oa (vp_updL of 0 ((iI (DIST v.1 v.2.1 b mv)).toInt64)) mh m1 m2 m3 m4 m5 ss hi sl tx ne (nI 0) kn ke le sp wr si on tw dn) := hD
  refine topE (v' := iI (DIST v.1 v.2.1 b mv)) (q_5.trans (heq)) ?_
  refine lv_istore (lv' := [(6, .int (iI (DIST v.1 v.2.1 b mv))), (5, .int (nI (0))), (0, .ref bq), (1, .ref (a 0)), (2, .ref mh), (3, .ref oa), (4, .int (nI (i)))]) hx hb dL_law_833 hl (by decide) rfl (fun ls hl => ?_)
  refine lv_aload_n hx hb dL_law_835 rfl (lv_at hl 4 rfl) ?_
  refine kPi (va_runV (As := []) (rest := []) ⟨hx, hb, hml, hown, hts⟩ (c_X9_thrown mh m1 m2 m3 m4 m5 ss hi sl tx ne (nI (0)) kn ke le sp wr si on tw dn (PP_r hP)) (cwV 0 hts gL_law_X9_thrown rfl rfl rfl (by decide +kernel) ⟨(Nat.le_of_ble_eq_true rfl), (Nat.le_of_ble_eq_true rfl)⟩) (preV hC hS hLo (PP_r hP) (ci := 8) (q0 := 0) rfl rfl) rfl rfl hl.1 rfl (lv_room (Nat.le_of_ble_eq_true rfl)) dL_law_836 ⟨by show c0 + _ ≤ 601024; omega, by show s0 + _ ≤ 7293034; omega⟩) hS (fun locs hS => ?_)
  refine lv_iload hx hb dL_law_839 (lv_at hl 1 rfl) ?_
  refine lv_icmp_eq (tgt := 846) hx hb dL_law_841 (by decide) (fun c_7 => ?_) (fun c_7 => ?_)
  · have f_8 := c_7
    refine lv_iload hx hb dL_law_846 (lv_at hl 1 rfl) ?_
    refine lv_if_ne (tgt := 863) hx hb dL_law_848 (by decide) (fun c_9 => ?_) (fun c_9 => ?_)
    · have f_10 : ¬ (0 : Int) = (0 : Int) := fun z => c_9 ((c_eq (nI_toInt (n := 0) (by omega)) rfl).mpr z)
      exfalso; omega
    · have f_11 : (0 : Int) = (0 : Int) := (c_eq (nI_toInt (n := 0) (by omega)) rfl).mp c_9
      refine lv_aload_n hx hb dL_law_851 rfl (lv_at hl 5 rfl) ?_
      refine lv_iconst (v := nI (0)) hx hb dL_law_852 (by decide) ?_
      refine gLald (j := 0) hx hb hC.K (PP_r (PP_l hP)) 0 4 rfl rfl rfl (by decide) (by decide) dL_law_853 ?_
      refine W.eq (g2 := F0 m 854 ls [.long ((iI (DIST v.1 v.2.1 b mv)).toInt64)]) rfl ?_
      refine lv_iload hx hb dL_law_854 (lv_at hl 0 rfl) ?_
      refine lv_i2l (v := (iI (DIST v.1 v.2.1 b mv)).toInt64) hx hb dL_law_856 (rfl) ?_
      refine W.lcmp hx hb dL_law_857 ?_
      refine topE (v' := nI (0)) (lg_self _) ?_
      refine lv_if_eq (tgt := 863) hx hb dL_law_858 (by decide) (fun c_12 => ?_) (fun c_12 => ?_)
      · have f_13 : (0 : Int) = (0 : Int) := (c_eq (nI_toInt (n := 0) (by omega)) rfl).mp c_12
        refine lv_goto (tgt := 1768) hx hb dL_law_863 (by decide) ?_
        exact hk H locs ls hP hD hS (lv_sub hl [2, 3, 4, 5, 6] rfl)
      · have f_14 : ¬ (0 : Int) = (0 : Int) := fun z => c_12 ((c_eq (nI_toInt (n := 0) (by omega)) rfl).mpr z)
        exfalso; omega
  · have f_15 := c_7
    exact absurd rfl f_15

set_option maxHeartbeats 4000000 in
set_option maxRecDepth 100000 in
theorem lw_11_x1a {pg : Program} {l : Launch} {ev : Env} {s : State} {m : MethodId} {below : List Frame} {meth : Method} {c : Code} {Q : State → Prop} {G : GT} {bq L : Nat} {xs : Nat → Int32} (hLK : LK pg l s m meth c bq L xs G) (c0 s0 : Nat) (hroom : c0 + 1 ≤ 601024 ∧ s0 + 6 ≤ 7293034) (a : Nat → Nat) (v : SVT) (mo ki : Nat → Nat) (pr df : Nat → Int) (co : Int32) (bi : Nat) (g9 : Nat → Int32) (lr : Nat) (bf : Nat → Int) (tn : Nat → Nat) (ln nx ct : Nat) (hv : Nat → SVT) (v0 : SVT) (k0 : Nat) (v1 : SVT) (k1 : Nat) (oa : Nat) (of : Nat → Int64) (mh m1 m2 m3 m4 m5 : Nat) (ss hi sl : Nat → Int) (tx : Nat → Nat) (ne : Nat → Int) (th : Int32) (kn ke le : Nat) (sp wr si on tw dn : Int32) (i : Nat) (p x0 : Int32) (hi5 : i + 5 ≤ L) (ha1 : xs (i + 1) = p) (ha2 : xs (i + 2) = x0) (hbad : p.toInt < 0 ∨ 4 ≤ p.toInt) {H : Heap} {locs : List Loc} {ls : Array Slot} (hP : PP G (lwW G a v mo ki pr df co bi g9 lr bf tn ln nx ct hv v0 k0 v1 k1 oa of mh m1 m2 m3 m4 m5 ss hi sl tx ne th kn ke le sp wr si on tw dn) H) (hD : va_D (lo G) (lwW G a v mo ki pr df co bi g9 lr bf tn ln nx ct hv v0 k0 v1 k1 oa of mh m1 m2 m3 m4 m5 ss hi sl tx ne th kn ke le sp wr si on tw dn)) (hS : va_S (lo G) s.heap H locs) (hl : lv_has ls 7 [(0, .ref bq), (1, .ref (a 0)), (2, .ref mh), (3, .ref oa), (4, .int (nI (i)))])
    (hk : ∀ (H : Heap) (locs : List Loc) (ls : Array Slot), PP G (lwW G a v mo ki pr df co bi g9 lr bf tn ln nx ct hv v0 k0 v1 k1 oa of mh m1 m2 m3 m4 m5 ss hi sl tx ne (nI 1) kn ke le sp wr si on tw dn) H → va_D (lo G) (lwW G a v mo ki pr df co bi g9 lr bf tn ln nx ct hv v0 k0 v1 k1 oa of mh m1 m2 m3 m4 m5 ss hi sl tx ne (nI 1) kn ke le sp wr si on tw dn) → va_S (lo G) s.heap H locs → lv_has ls 7 [(0, .ref bq), (1, .ref (a 0)), (2, .ref mh), (3, .ref oa), (4, .int (nI (i)))] → W pg l ev room_1 s m #[Value.ref bq] below meth c H locs (c0 + 1) (s0 + 6) Q (F0 m 1768 ls [])) :
    W pg l ev room_1 s m #[Value.ref bq] below meth c H locs c0 s0 Q (F0 m 798 ls []) := by
  obtain ⟨hx, hb, hml, hown, hts, hX, hbl, hCX, hgB, hfl, hL9⟩ := hLK
  have hC := hCX.1
  have hLo : ∀ q, lo G q → lo G q := fun _ h => h
  have hA : ∀ q, s.heap.size ≤ q → lo G q := fun q h => by show gB G ≤ q; rw [hgB]; exact h
  have hbA : ¬ lo G bq := by show ¬ gB G ≤ bq; rw [hgB]; omega
  refine lv_aload_n hx hb dL_law_798 rfl (lv_at hl 1 rfl) ?_
  refine lv_aload_n hx hb dL_law_799 rfl (lv_at hl 0 rfl) ?_
  refine lv_iload hx hb dL_law_800 (lv_at hl 4 rfl) ?_
  refine lv_iconst (v := nI (1)) hx hb dL_law_802 (by decide) ?_
  refine gAdd (z := nI (i + 1)) hx hb dL_law_803 (nI_add _ _) ?_
  refine gScr (i := i + 1) (v := p) hx hb hX hbl hbA hS (by omega) hL9 ha1 dL_law_804 ?_
  refine lv_aload_n hx hb dL_law_805 rfl (lv_at hl 0 rfl) ?_
  refine lv_iload hx hb dL_law_806 (lv_at hl 4 rfl) ?_
  refine lv_iconst (v := nI (2)) hx hb dL_law_808 (by decide) ?_
  refine gAdd (z := nI (i + 2)) hx hb dL_law_809 (nI_add _ _) ?_
  refine gScr (i := i + 2) (v := x0) hx hb hX hbl hbA hS (by omega) hL9 ha2 dL_law_810 ?_
  refine lv_aload_n hx hb dL_law_811 rfl (lv_at hl 3 rfl) ?_
  refine kPreI (vx_runSW (As := [.ref (a 0), .int (p), .int (x0), .ref oa]) (rest := []) ⟨hx, hb, hml, hown, hts⟩ (c_L_distance_1 a v mo ki pr df co bi g9 lr bf tn ln nx ct hv v0 k0 v1 k1 oa of p x0 (hbad) hfl (PP_l hP) ((pre_D hD).weaken (fun _ _ _ h => hLo _ h))) (vx_cwSW 4 hts gL_law_L_distance rfl rfl rfl (by decide +kernel) ⟨(Nat.le_of_ble_eq_true rfl), (Nat.le_of_ble_eq_true rfl)⟩) (preSX hCX hS hLo) rfl rfl hl.1 rfl (lv_room (Nat.le_of_ble_eq_true rfl)) dL_law_812 ⟨by show c0 + _ ≤ 601024; omega, by show s0 + _ ≤ 7293034; omega⟩) hP hD hS hA (fun _ => lw_fst) (fun r_3 u_1 H locs q_2 hP hD hS => ?_)
  have hP : PP G (lwW G a v mo ki pr df co bi g9 lr bf tn ln nx ct hv v0 k0 v1 k1 oa of mh m1 m2 m3 m4 m5 ss hi sl tx ne th kn ke le sp wr si on tw dn) H := hP
  have hD : va_D (lo G) (lwW G a v mo ki pr df co bi g9 lr bf tn ln nx ct hv v0 k0 v1 k1 oa of mh m1 m2 m3 m4 m5 ss hi sl tx ne th kn ke le sp wr si on tw dn) := hD
  refine topE (v' := nI (1)) (q_2) ?_
  refine lv_istore (lv' := [(5, .int (nI (1))), (0, .ref bq), (1, .ref (a 0)), (2, .ref mh), (3, .ref oa), (4, .int (nI (i)))]) hx hb dL_law_815 hl (by decide) rfl (fun ls hl => ?_)
  refine lv_aload_n hx hb dL_law_817 rfl (lv_at hl 3 rfl) ?_
  refine lv_aload_n hx hb dL_law_818 rfl (lv_at hl 1 rfl) ?_
  refine lv_iload hx hb dL_law_819 (lv_at hl 5 rfl) ?_
  refine lv_iconst (v := nI (1)) hx hb dL_law_821 (by decide) ?_
  refine gAdd (z := nI (i + 1)) hx hb dL_law_822 (nI_add _ _) ?_
  refine gScr (i := i + 1) (v := p) hx hb hX hbl hbA hS (by omega) hL9 ha1 dL_law_823 ?_
  refine lv_aload_n hx hb dL_law_824 rfl (lv_at hl 1 rfl) ?_
  refine lv_iload hx hb dL_law_825 (lv_at hl 5 rfl) ?_
  refine lv_iconst (v := nI (2)) hx hb dL_law_827 (by decide) ?_
  refine gAdd (z := nI (i + 2)) hx hb dL_law_828 (nI_add _ _) ?_
  refine gScr (i := i + 2) (v := x0) hx hb hX hbl hbA hS (by omega) hL9 ha2 dL_law_829 ?_
  refine kSufI (va_runV (As := [.int (p), .int (x0)]) (rest := []) ⟨hx, hb, hml, hown, hts⟩ (c_X9_distance_1a mh m1 m2 m3 m4 m5 ss hi sl tx ne th kn ke le sp wr si on tw dn p x0 (hbad) (PP_r hP) ((pre_D (va_D_swap hD)).weaken (fun _ _ _ h => hLo _ h))) (cwV 2 hts gL_law_X9_distance rfl rfl rfl (by decide +kernel) ⟨(Nat.le_of_ble_eq_true rfl), (Nat.le_of_ble_eq_true rfl)⟩) (preV hC hS hLo (PP_r hP) (ci := 8) (q0 := 0) rfl rfl) rfl rfl hl.1 rfl (lv_room (Nat.le_of_ble_eq_true rfl)) dL_law_830 ⟨by show c0 + _ ≤ 601024; omega, by show s0 + _ ≤ 7293034; omega⟩) hP hD hS hA (fun _ => rfl) (fun r_6 u_4 H locs q_5 hP hD hS => ?_)
  have hP : PP G (lwW G a v mo ki pr df co bi g9 lr bf tn ln nx ct hv v0 k0 v1 k1 oa of mh m1 m2 m3 m4 m5 ss hi sl tx ne (nI 1) kn ke le sp wr si on tw dn) H := hP
  have hD : va_D (lo G) (lwW G a v mo ki pr df co bi g9 lr bf tn ln nx ct hv v0 k0 v1 k1 oa of mh m1 m2 m3 m4 m5 ss hi sl tx ne (nI 1) kn ke le sp wr si on tw dn) := hD
  refine topE (v' := nI (0)) (q_5) ?_
  refine lv_istore (lv' := [(6, .int (nI (0))), (5, .int (nI (1))), (0, .ref bq), (1, .ref (a 0)), (2, .ref mh), (3, .ref oa), (4, .int (nI (i)))]) hx hb dL_law_833 hl (by decide) rfl (fun ls hl => ?_)
  refine lv_aload_n hx hb dL_law_835 rfl (lv_at hl 4 rfl) ?_
  refine kPi (va_runV (As := []) (rest := []) ⟨hx, hb, hml, hown, hts⟩ (c_X9_thrown mh m1 m2 m3 m4 m5 ss hi sl tx ne (nI (1)) kn ke le sp wr si on tw dn (PP_r hP)) (cwV 0 hts gL_law_X9_thrown rfl rfl rfl (by decide +kernel) ⟨(Nat.le_of_ble_eq_true rfl), (Nat.le_of_ble_eq_true rfl)⟩) (preV hC hS hLo (PP_r hP) (ci := 8) (q0 := 0) rfl rfl) rfl rfl hl.1 rfl (lv_room (Nat.le_of_ble_eq_true rfl)) dL_law_836 ⟨by show c0 + _ ≤ 601024; omega, by show s0 + _ ≤ 7293034; omega⟩) hS (fun locs hS => ?_)
  refine lv_iload hx hb dL_law_839 (lv_at hl 1 rfl) ?_
  refine lv_icmp_eq (tgt := 846) hx hb dL_law_841 (by decide) (fun c_7 => ?_) (fun c_7 => ?_)
  · have f_8 := c_7
    refine lv_iload hx hb dL_law_846 (lv_at hl 1 rfl) ?_
    refine lv_if_ne (tgt := 863) hx hb dL_law_848 (by decide) (fun c_9 => ?_) (fun c_9 => ?_)
    · have f_10 : ¬ (1 : Int) = (0 : Int) := fun z => c_9 ((c_eq (nI_toInt (n := 1) (by omega)) rfl).mpr z)
      refine lv_goto (tgt := 1768) hx hb dL_law_863 (by decide) ?_
      exact hk H locs ls hP hD hS (lv_sub hl [2, 3, 4, 5, 6] rfl)
    · have f_11 : (1 : Int) = (0 : Int) := (c_eq (nI_toInt (n := 1) (by omega)) rfl).mp c_9
      exfalso; omega
  · have f_12 := c_7
    exact absurd rfl f_12

set_option maxHeartbeats 4000000 in
set_option maxRecDepth 100000 in
theorem lw_11_x1b {pg : Program} {l : Launch} {ev : Env} {s : State} {m : MethodId} {below : List Frame} {meth : Method} {c : Code} {Q : State → Prop} {G : GT} {bq L : Nat} {xs : Nat → Int32} (hLK : LK pg l s m meth c bq L xs G) (c0 s0 : Nat) (hroom : c0 + 1 ≤ 601024 ∧ s0 + 6 ≤ 7293034) (a : Nat → Nat) (v : SVT) (mo ki : Nat → Nat) (pr df : Nat → Int) (co : Int32) (bi : Nat) (g9 : Nat → Int32) (lr : Nat) (bf : Nat → Int) (tn : Nat → Nat) (ln nx ct : Nat) (hv : Nat → SVT) (v0 : SVT) (k0 : Nat) (v1 : SVT) (k1 : Nat) (oa : Nat) (of : Nat → Int64) (mh m1 m2 m3 m4 m5 : Nat) (ss hi sl : Nat → Int) (tx : Nat → Nat) (ne : Nat → Int) (th : Int32) (kn ke le : Nat) (sp wr si on tw dn : Int32) (i : Nat) (p : Nat) (x0 : Int32) (hi5 : i + 5 ≤ L) (ha1 : xs (i + 1) = nI (p)) (ha2 : xs (i + 2) = x0) (hp : p < 4) (hbad : x0.toInt < 0 ∨ 25 ≤ x0.toInt) {H : Heap} {locs : List Loc} {ls : Array Slot} (hP : PP G (lwW G a v mo ki pr df co bi g9 lr bf tn ln nx ct hv v0 k0 v1 k1 oa of mh m1 m2 m3 m4 m5 ss hi sl tx ne th kn ke le sp wr si on tw dn) H) (hD : va_D (lo G) (lwW G a v mo ki pr df co bi g9 lr bf tn ln nx ct hv v0 k0 v1 k1 oa of mh m1 m2 m3 m4 m5 ss hi sl tx ne th kn ke le sp wr si on tw dn)) (hS : va_S (lo G) s.heap H locs) (hl : lv_has ls 7 [(0, .ref bq), (1, .ref (a 0)), (2, .ref mh), (3, .ref oa), (4, .int (nI (i)))])
    (hk : ∀ (H : Heap) (locs : List Loc) (ls : Array Slot), PP G (lwW G a v mo ki pr df co bi g9 lr bf tn ln nx ct hv v0 k0 v1 k1 oa of mh m1 m2 m3 m4 m5 ss hi sl tx ne (nI 1) kn ke le sp wr si on tw dn) H → va_D (lo G) (lwW G a v mo ki pr df co bi g9 lr bf tn ln nx ct hv v0 k0 v1 k1 oa of mh m1 m2 m3 m4 m5 ss hi sl tx ne (nI 1) kn ke le sp wr si on tw dn) → va_S (lo G) s.heap H locs → lv_has ls 7 [(0, .ref bq), (1, .ref (a 0)), (2, .ref mh), (3, .ref oa), (4, .int (nI (i)))] → W pg l ev room_1 s m #[Value.ref bq] below meth c H locs (c0 + 1) (s0 + 6) Q (F0 m 1768 ls [])) :
    W pg l ev room_1 s m #[Value.ref bq] below meth c H locs c0 s0 Q (F0 m 798 ls []) := by
  obtain ⟨hx, hb, hml, hown, hts, hX, hbl, hCX, hgB, hfl, hL9⟩ := hLK
  have hC := hCX.1
  have hLo : ∀ q, lo G q → lo G q := fun _ h => h
  have hA : ∀ q, s.heap.size ≤ q → lo G q := fun q h => by show gB G ≤ q; rw [hgB]; exact h
  have hbA : ¬ lo G bq := by show ¬ gB G ≤ bq; rw [hgB]; omega
  refine lv_aload_n hx hb dL_law_798 rfl (lv_at hl 1 rfl) ?_
  refine lv_aload_n hx hb dL_law_799 rfl (lv_at hl 0 rfl) ?_
  refine lv_iload hx hb dL_law_800 (lv_at hl 4 rfl) ?_
  refine lv_iconst (v := nI (1)) hx hb dL_law_802 (by decide) ?_
  refine gAdd (z := nI (i + 1)) hx hb dL_law_803 (nI_add _ _) ?_
  refine gScr (i := i + 1) (v := nI (p)) hx hb hX hbl hbA hS (by omega) hL9 ha1 dL_law_804 ?_
  refine lv_aload_n hx hb dL_law_805 rfl (lv_at hl 0 rfl) ?_
  refine lv_iload hx hb dL_law_806 (lv_at hl 4 rfl) ?_
  refine lv_iconst (v := nI (2)) hx hb dL_law_808 (by decide) ?_
  refine gAdd (z := nI (i + 2)) hx hb dL_law_809 (nI_add _ _) ?_
  refine gScr (i := i + 2) (v := x0) hx hb hX hbl hbA hS (by omega) hL9 ha2 dL_law_810 ?_
  refine lv_aload_n hx hb dL_law_811 rfl (lv_at hl 3 rfl) ?_
  refine kPreI (vx_runSW (As := [.ref (a 0), .int (nI (p)), .int (x0), .ref oa]) (rest := []) ⟨hx, hb, hml, hown, hts⟩ (c_L_distance_1b a v mo ki pr df co bi g9 lr bf tn ln nx ct hv v0 k0 v1 k1 oa of p x0 (hp) (hbad) hfl (PP_l hP) ((pre_D hD).weaken (fun _ _ _ h => hLo _ h))) (vx_cwSW 4 hts gL_law_L_distance rfl rfl rfl (by decide +kernel) ⟨(Nat.le_of_ble_eq_true rfl), (Nat.le_of_ble_eq_true rfl)⟩) (preSX hCX hS hLo) rfl rfl hl.1 rfl (lv_room (Nat.le_of_ble_eq_true rfl)) dL_law_812 ⟨by show c0 + _ ≤ 601024; omega, by show s0 + _ ≤ 7293034; omega⟩) hP hD hS hA (fun _ => lw_fst) (fun r_3 u_1 H locs q_2 hP hD hS => ?_)
  have hP : PP G (lwW G a v mo ki pr df co bi g9 lr bf tn ln nx ct hv v0 k0 v1 k1 oa of mh m1 m2 m3 m4 m5 ss hi sl tx ne th kn ke le sp wr si on tw dn) H := hP
  have hD : va_D (lo G) (lwW G a v mo ki pr df co bi g9 lr bf tn ln nx ct hv v0 k0 v1 k1 oa of mh m1 m2 m3 m4 m5 ss hi sl tx ne th kn ke le sp wr si on tw dn) := hD
  refine topE (v' := nI (1)) (q_2) ?_
  refine lv_istore (lv' := [(5, .int (nI (1))), (0, .ref bq), (1, .ref (a 0)), (2, .ref mh), (3, .ref oa), (4, .int (nI (i)))]) hx hb dL_law_815 hl (by decide) rfl (fun ls hl => ?_)
  refine lv_aload_n hx hb dL_law_817 rfl (lv_at hl 3 rfl) ?_
  refine lv_aload_n hx hb dL_law_818 rfl (lv_at hl 1 rfl) ?_
  refine lv_iload hx hb dL_law_819 (lv_at hl 5 rfl) ?_
  refine lv_iconst (v := nI (1)) hx hb dL_law_821 (by decide) ?_
  refine gAdd (z := nI (i + 1)) hx hb dL_law_822 (nI_add _ _) ?_
  refine gScr (i := i + 1) (v := nI (p)) hx hb hX hbl hbA hS (by omega) hL9 ha1 dL_law_823 ?_
  refine lv_aload_n hx hb dL_law_824 rfl (lv_at hl 1 rfl) ?_
  refine lv_iload hx hb dL_law_825 (lv_at hl 5 rfl) ?_
  refine lv_iconst (v := nI (2)) hx hb dL_law_827 (by decide) ?_
  refine gAdd (z := nI (i + 2)) hx hb dL_law_828 (nI_add _ _) ?_
  refine gScr (i := i + 2) (v := x0) hx hb hX hbl hbA hS (by omega) hL9 ha2 dL_law_829 ?_
  refine kSufI (va_runV (As := [.int (nI (p)), .int (x0)]) (rest := []) ⟨hx, hb, hml, hown, hts⟩ (c_X9_distance_1b mh m1 m2 m3 m4 m5 ss hi sl tx ne th kn ke le sp wr si on tw dn p x0 (hp) (hbad) (PP_r hP) ((pre_D (va_D_swap hD)).weaken (fun _ _ _ h => hLo _ h))) (cwV 2 hts gL_law_X9_distance rfl rfl rfl (by decide +kernel) ⟨(Nat.le_of_ble_eq_true rfl), (Nat.le_of_ble_eq_true rfl)⟩) (preV hC hS hLo (PP_r hP) (ci := 8) (q0 := 0) rfl rfl) rfl rfl hl.1 rfl (lv_room (Nat.le_of_ble_eq_true rfl)) dL_law_830 ⟨by show c0 + _ ≤ 601024; omega, by show s0 + _ ≤ 7293034; omega⟩) hP hD hS hA (fun _ => rfl) (fun r_6 u_4 H locs q_5 hP hD hS => ?_)
  have hP : PP G (lwW G a v mo ki pr df co bi g9 lr bf tn ln nx ct hv v0 k0 v1 k1 oa of mh m1 m2 m3 m4 m5 ss hi sl tx ne (nI 1) kn ke le sp wr si on tw dn) H := hP
  have hD : va_D (lo G) (lwW G a v mo ki pr df co bi g9 lr bf tn ln nx ct hv v0 k0 v1 k1 oa of mh m1 m2 m3 m4 m5 ss hi sl tx ne (nI 1) kn ke le sp wr si on tw dn) := hD
  refine topE (v' := nI (0)) (q_5) ?_
  refine lv_istore (lv' := [(6, .int (nI (0))), (5, .int (nI (1))), (0, .ref bq), (1, .ref (a 0)), (2, .ref mh), (3, .ref oa), (4, .int (nI (i)))]) hx hb dL_law_833 hl (by decide) rfl (fun ls hl => ?_)
  refine lv_aload_n hx hb dL_law_835 rfl (lv_at hl 4 rfl) ?_
  refine kPi (va_runV (As := []) (rest := []) ⟨hx, hb, hml, hown, hts⟩ (c_X9_thrown mh m1 m2 m3 m4 m5 ss hi sl tx ne (nI (1)) kn ke le sp wr si on tw dn (PP_r hP)) (cwV 0 hts gL_law_X9_thrown rfl rfl rfl (by decide +kernel) ⟨(Nat.le_of_ble_eq_true rfl), (Nat.le_of_ble_eq_true rfl)⟩) (preV hC hS hLo (PP_r hP) (ci := 8) (q0 := 0) rfl rfl) rfl rfl hl.1 rfl (lv_room (Nat.le_of_ble_eq_true rfl)) dL_law_836 ⟨by show c0 + _ ≤ 601024; omega, by show s0 + _ ≤ 7293034; omega⟩) hS (fun locs hS => ?_)
  refine lv_iload hx hb dL_law_839 (lv_at hl 1 rfl) ?_
  refine lv_icmp_eq (tgt := 846) hx hb dL_law_841 (by decide) (fun c_7 => ?_) (fun c_7 => ?_)
  · have f_8 := c_7
    refine lv_iload hx hb dL_law_846 (lv_at hl 1 rfl) ?_
    refine lv_if_ne (tgt := 863) hx hb dL_law_848 (by decide) (fun c_9 => ?_) (fun c_9 => ?_)
    · have f_10 : ¬ (1 : Int) = (0 : Int) := fun z => c_9 ((c_eq (nI_toInt (n := 1) (by omega)) rfl).mpr z)
      refine lv_goto (tgt := 1768) hx hb dL_law_863 (by decide) ?_
      exact hk H locs ls hP hD hS (lv_sub hl [2, 3, 4, 5, 6] rfl)
    · have f_11 : (1 : Int) = (0 : Int) := (c_eq (nI_toInt (n := 1) (by omega)) rfl).mp c_9
      exfalso; omega
  · have f_12 := c_7
    exact absurd rfl f_12

set_option maxHeartbeats 4000000 in
set_option maxRecDepth 100000 in
theorem lw_12_ok {pg : Program} {l : Launch} {ev : Env} {s : State} {m : MethodId} {below : List Frame} {meth : Method} {c : Code} {Q : State → Prop} {G : GT} {bq L : Nat} {xs : Nat → Int32} (hLK : LK pg l s m meth c bq L xs G) (c0 s0 : Nat) (hroom : c0 + 1 ≤ 601024 ∧ s0 + 6 ≤ 7293034) (a : Nat → Nat) (v : SVT) (mo ki : Nat → Nat) (pr df : Nat → Int) (co : Int32) (bi : Nat) (g9 : Nat → Int32) (lr : Nat) (bf : Nat → Int) (tn : Nat → Nat) (ln nx ct : Nat) (hv : Nat → SVT) (v0 : SVT) (k0 : Nat) (v1 : SVT) (k1 : Nat) (oa : Nat) (of : Nat → Int64) (mh m1 m2 m3 m4 m5 : Nat) (ss hi sl : Nat → Int) (tx : Nat → Nat) (ne : Nat → Int) (th : Int32) (kn ke le : Nat) (sp wr si on tw dn : Int32) (i : Nat) (b : Nat) (hi5 : i + 5 ≤ L) (ha1 : xs (i + 1) = nI (b)) (hd : R15 v.1) (ht : R15 v.2.1) (hb4 : b < 4) (hMR : MR ss) (heq : nI (BEST (dS ss) (tS ss) b) = nI (BEST v.1 v.2.1 b)) {H : Heap} {locs : List Loc} {ls : Array Slot} (hP : PP G (lwW G a v mo ki pr df co bi g9 lr bf tn ln nx ct hv v0 k0 v1 k1 oa of mh m1 m2 m3 m4 m5 ss hi sl tx ne th kn ke le sp wr si on tw dn) H) (hD : va_D (lo G) (lwW G a v mo ki pr df co bi g9 lr bf tn ln nx ct hv v0 k0 v1 k1 oa of mh m1 m2 m3 m4 m5 ss hi sl tx ne th kn ke le sp wr si on tw dn)) (hS : va_S (lo G) s.heap H locs) (hl : lv_has ls 7 [(0, .ref bq), (1, .ref (a 0)), (2, .ref mh), (3, .ref oa), (4, .int (nI (i)))])
    (hk : ∀ (H : Heap) (locs : List Loc) (ls : Array Slot), PP G (lwW G a v mo ki pr df co bi g9 lr bf tn ln nx ct hv v0 k0 v1 k1 oa (vp_updL of 0 ((nI (BEST v.1 v.2.1 b)).toInt64)) mh m1 m2 m3 m4 m5 ss hi sl tx ne (nI 0) kn ke le sp wr si on tw dn) H → va_D (lo G) (lwW G a v mo ki pr df co bi g9 lr bf tn ln nx ct hv v0 k0 v1 k1 oa (vp_updL of 0 ((nI (BEST v.1 v.2.1 b)).toInt64)) mh m1 m2 m3 m4 m5 ss hi sl tx ne (nI 0) kn ke le sp wr si on tw dn) → va_S (lo G) s.heap H locs → lv_has ls 7 [(0, .ref bq), (1, .ref (a 0)), (2, .ref mh), (3, .ref oa), (4, .int (nI (i)))] → W pg l ev room_1 s m #[Value.ref bq] below meth c H locs (c0 + 0) (s0 + 0) Q (F0 m 1768 ls [])) :
    W pg l ev room_1 s m #[Value.ref bq] below meth c H locs c0 s0 Q (F0 m 866 ls []) := by
  obtain ⟨hx, hb, hml, hown, hts, hX, hbl, hCX, hgB, hfl, hL9⟩ := hLK
  have hC := hCX.1
  have hLo : ∀ q, lo G q → lo G q := fun _ h => h
  have hA : ∀ q, s.heap.size ≤ q → lo G q := fun q h => by show gB G ≤ q; rw [hgB]; exact h
  have hbA : ¬ lo G bq := by show ¬ gB G ≤ bq; rw [hgB]; omega
  refine lv_aload_n hx hb dL_law_866 rfl (lv_at hl 1 rfl) ?_
  refine lv_aload_n hx hb dL_law_867 rfl (lv_at hl 0 rfl) ?_
  refine lv_iload hx hb dL_law_868 (lv_at hl 4 rfl) ?_
  refine lv_iconst (v := nI (1)) hx hb dL_law_870 (by decide) ?_
  refine gAdd (z := nI (i + 1)) hx hb dL_law_871 (nI_add _ _) ?_
  refine gScr (i := i + 1) (v := nI (b)) hx hb hX hbl hbA hS (by omega) hL9 ha1 dL_law_872 ?_
  refine lv_aload_n hx hb dL_law_873 rfl (lv_at hl 3 rfl) ?_
  refine kPreI (vx_runSW (As := [.ref (a 0), .int (nI (b)), .ref oa]) (rest := []) ⟨hx, hb, hml, hown, hts⟩ (c_L_bestMove a v mo ki pr df co bi g9 lr bf tn ln nx ct hv v0 k0 v1 k1 oa of b (hd) (ht) (hb4) (PP_l hP) ((pre_D hD).weaken (fun _ _ _ h => hLo _ h))) (vx_cwSW 3 hts gL_law_L_bestMove rfl rfl rfl (by decide +kernel) ⟨(Nat.le_of_ble_eq_true rfl), (Nat.le_of_ble_eq_true rfl)⟩) (preS hC hS hLo) rfl rfl hl.1 rfl (lv_room (Nat.le_of_ble_eq_true rfl)) dL_law_874 ⟨by show c0 + _ ≤ 601024; omega, by show s0 + _ ≤ 7293034; omega⟩) hP hD hS hA (fun _ => lw_fst) (fun r_3 u_1 H locs q_2 hP hD hS => ?_)
  have hP : PP G (lwW G a v mo ki pr df co bi g9 lr bf tn ln nx ct hv v0 k0 v1 k1 oa (vp_updL of 0 ((nI (BEST v.1 v.2.1 b)).toInt64)) mh m1 m2 m3 m4 m5 ss hi sl tx ne th kn ke le sp wr si on tw dn) H := hP
  have hD : va_D (lo G) (lwW G a v mo ki pr df co bi g9 lr bf tn ln nx ct hv v0 k0 v1 k1 oa (vp_updL of 0 ((nI (BEST v.1 v.2.1 b)).toInt64)) mh m1 m2 m3 m4 m5 ss hi sl tx ne th kn ke le sp wr si on tw dn) := hD
  refine topE (v' := nI (0)) (q_2) ?_
  refine lv_istore (lv' := [(5, .int (nI (0))), (0, .ref bq), (1, .ref (a 0)), (2, .ref mh), (3, .ref oa), (4, .int (nI (i)))]) hx hb dL_law_877 hl (by decide) rfl (fun ls hl => ?_)
  refine lv_aload_n hx hb dL_law_879 rfl (lv_at hl 3 rfl) ?_
  refine lv_aload_n hx hb dL_law_880 rfl (lv_at hl 1 rfl) ?_
  refine lv_iload hx hb dL_law_881 (lv_at hl 5 rfl) ?_
  refine lv_iconst (v := nI (1)) hx hb dL_law_883 (by decide) ?_
  refine gAdd (z := nI (i + 1)) hx hb dL_law_884 (nI_add _ _) ?_
  refine gScr (i := i + 1) (v := nI (b)) hx hb hX hbl hbA hS (by omega) hL9 ha1 dL_law_885 ?_
  refine kSufI (va_runV (As := [.int (nI (b))]) (rest := []) ⟨hx, hb, hml, hown, hts⟩ (c_X9_bestMove mh m1 m2 m3 m4 m5 ss hi sl tx ne th kn ke le sp wr si on tw dn b (hMR) (hb4) (PP_r hP) ((pre_D (va_D_swap hD)).weaken (fun _ _ _ h => hLo _ h))) (cwV 1 hts gL_law_X9_bestMove rfl rfl rfl (by decide +kernel) ⟨(Nat.le_of_ble_eq_true rfl), (Nat.le_of_ble_eq_true rfl)⟩) (preV hC hS hLo (PP_r hP) (ci := 8) (q0 := 0) rfl rfl) rfl rfl hl.1 rfl (lv_room (Nat.le_of_ble_eq_true rfl)) dL_law_886 ⟨by show c0 + _ ≤ 601024; omega, by show s0 + _ ≤ 7293034; omega⟩) hP hD hS hA (fun _ => rfl) (fun r_6 u_4 H locs q_5 hP hD hS => ?_)
  have hP : PP G (lwW G a v mo ki pr df co bi g9 lr bf tn ln nx ct hv v0 k0 v1 k1 oa (vp_updL of 0 ((nI (BEST v.1 v.2.1 b)).toInt64)) mh m1 m2 m3 m4 m5 ss hi sl tx ne (nI 0) kn ke le sp wr si on tw dn) H := hP
  have hD : va_D (lo G) (lwW G a v mo ki pr df co bi g9 lr bf tn ln nx ct hv v0 k0 v1 k1 oa (vp_updL of 0 ((nI (BEST v.1 v.2.1 b)).toInt64)) mh m1 m2 m3 m4 m5 ss hi sl tx ne (nI 0) kn ke le sp wr si on tw dn) := hD
  refine topE (v' := nI (BEST v.1 v.2.1 b)) (q_5.trans (heq)) ?_
  refine lv_istore (lv' := [(6, .int (nI (BEST v.1 v.2.1 b))), (5, .int (nI (0))), (0, .ref bq), (1, .ref (a 0)), (2, .ref mh), (3, .ref oa), (4, .int (nI (i)))]) hx hb dL_law_889 hl (by decide) rfl (fun ls hl => ?_)
  refine lv_aload_n hx hb dL_law_891 rfl (lv_at hl 4 rfl) ?_
  refine kPi (va_runV (As := []) (rest := []) ⟨hx, hb, hml, hown, hts⟩ (c_X9_thrown mh m1 m2 m3 m4 m5 ss hi sl tx ne (nI (0)) kn ke le sp wr si on tw dn (PP_r hP)) (cwV 0 hts gL_law_X9_thrown rfl rfl rfl (by decide +kernel) ⟨(Nat.le_of_ble_eq_true rfl), (Nat.le_of_ble_eq_true rfl)⟩) (preV hC hS hLo (PP_r hP) (ci := 8) (q0 := 0) rfl rfl) rfl rfl hl.1 rfl (lv_room (Nat.le_of_ble_eq_true rfl)) dL_law_892 ⟨by show c0 + _ ≤ 601024; omega, by show s0 + _ ≤ 7293034; omega⟩) hS (fun locs hS => ?_)
  refine lv_iload hx hb dL_law_895 (lv_at hl 1 rfl) ?_
  refine lv_icmp_eq (tgt := 902) hx hb dL_law_897 (by decide) (fun c_7 => ?_) (fun c_7 => ?_)
  · have f_8 := c_7
    refine lv_iload hx hb dL_law_902 (lv_at hl 1 rfl) ?_
    refine lv_if_ne (tgt := 919) hx hb dL_law_904 (by decide) (fun c_9 => ?_) (fun c_9 => ?_)
    · have f_10 : ¬ (0 : Int) = (0 : Int) := fun z => c_9 ((c_eq (nI_toInt (n := 0) (by omega)) rfl).mpr z)
      exfalso; omega
    · have f_11 : (0 : Int) = (0 : Int) := (c_eq (nI_toInt (n := 0) (by omega)) rfl).mp c_9
      refine lv_aload_n hx hb dL_law_907 rfl (lv_at hl 5 rfl) ?_
      refine lv_iconst (v := nI (0)) hx hb dL_law_908 (by decide) ?_
      refine gLald (j := 0) hx hb hC.K (PP_r (PP_l hP)) 0 4 rfl rfl rfl (by decide) (by decide) dL_law_909 ?_
      refine W.eq (g2 := F0 m 910 ls [.long ((nI (BEST v.1 v.2.1 b)).toInt64)]) rfl ?_
      refine lv_iload hx hb dL_law_910 (lv_at hl 0 rfl) ?_
      refine lv_i2l (v := (nI (BEST v.1 v.2.1 b)).toInt64) hx hb dL_law_912 (rfl) ?_
      refine W.lcmp hx hb dL_law_913 ?_
      refine topE (v' := nI (0)) (lg_self _) ?_
      refine lv_if_eq (tgt := 919) hx hb dL_law_914 (by decide) (fun c_12 => ?_) (fun c_12 => ?_)
      · have f_13 : (0 : Int) = (0 : Int) := (c_eq (nI_toInt (n := 0) (by omega)) rfl).mp c_12
        refine lv_goto (tgt := 1768) hx hb dL_law_919 (by decide) ?_
        exact hk H locs ls hP hD hS (lv_sub hl [2, 3, 4, 5, 6] rfl)
      · have f_14 : ¬ (0 : Int) = (0 : Int) := fun z => c_12 ((c_eq (nI_toInt (n := 0) (by omega)) rfl).mpr z)
        exfalso; omega
  · have f_15 := c_7
    exact absurd rfl f_15

set_option maxHeartbeats 4000000 in
set_option maxRecDepth 100000 in
theorem lw_12_x1 {pg : Program} {l : Launch} {ev : Env} {s : State} {m : MethodId} {below : List Frame} {meth : Method} {c : Code} {Q : State → Prop} {G : GT} {bq L : Nat} {xs : Nat → Int32} (hLK : LK pg l s m meth c bq L xs G) (c0 s0 : Nat) (hroom : c0 + 1 ≤ 601024 ∧ s0 + 6 ≤ 7293034) (a : Nat → Nat) (v : SVT) (mo ki : Nat → Nat) (pr df : Nat → Int) (co : Int32) (bi : Nat) (g9 : Nat → Int32) (lr : Nat) (bf : Nat → Int) (tn : Nat → Nat) (ln nx ct : Nat) (hv : Nat → SVT) (v0 : SVT) (k0 : Nat) (v1 : SVT) (k1 : Nat) (oa : Nat) (of : Nat → Int64) (mh m1 m2 m3 m4 m5 : Nat) (ss hi sl : Nat → Int) (tx : Nat → Nat) (ne : Nat → Int) (th : Int32) (kn ke le : Nat) (sp wr si on tw dn : Int32) (i : Nat) (p : Int32) (hi5 : i + 5 ≤ L) (ha1 : xs (i + 1) = p) (hbad : p.toInt < 0 ∨ 4 ≤ p.toInt) {H : Heap} {locs : List Loc} {ls : Array Slot} (hP : PP G (lwW G a v mo ki pr df co bi g9 lr bf tn ln nx ct hv v0 k0 v1 k1 oa of mh m1 m2 m3 m4 m5 ss hi sl tx ne th kn ke le sp wr si on tw dn) H) (hD : va_D (lo G) (lwW G a v mo ki pr df co bi g9 lr bf tn ln nx ct hv v0 k0 v1 k1 oa of mh m1 m2 m3 m4 m5 ss hi sl tx ne th kn ke le sp wr si on tw dn)) (hS : va_S (lo G) s.heap H locs) (hl : lv_has ls 7 [(0, .ref bq), (1, .ref (a 0)), (2, .ref mh), (3, .ref oa), (4, .int (nI (i)))])
    (hk : ∀ (H : Heap) (locs : List Loc) (ls : Array Slot), PP G (lwW G a v mo ki pr df co bi g9 lr bf tn ln nx ct hv v0 k0 v1 k1 oa of mh m1 m2 m3 m4 m5 ss hi sl tx ne (nI 1) kn ke le sp wr si on tw dn) H → va_D (lo G) (lwW G a v mo ki pr df co bi g9 lr bf tn ln nx ct hv v0 k0 v1 k1 oa of mh m1 m2 m3 m4 m5 ss hi sl tx ne (nI 1) kn ke le sp wr si on tw dn) → va_S (lo G) s.heap H locs → lv_has ls 7 [(0, .ref bq), (1, .ref (a 0)), (2, .ref mh), (3, .ref oa), (4, .int (nI (i)))] → W pg l ev room_1 s m #[Value.ref bq] below meth c H locs (c0 + 1) (s0 + 6) Q (F0 m 1768 ls [])) :
    W pg l ev room_1 s m #[Value.ref bq] below meth c H locs c0 s0 Q (F0 m 866 ls []) := by
  obtain ⟨hx, hb, hml, hown, hts, hX, hbl, hCX, hgB, hfl, hL9⟩ := hLK
  have hC := hCX.1
  have hLo : ∀ q, lo G q → lo G q := fun _ h => h
  have hA : ∀ q, s.heap.size ≤ q → lo G q := fun q h => by show gB G ≤ q; rw [hgB]; exact h
  have hbA : ¬ lo G bq := by show ¬ gB G ≤ bq; rw [hgB]; omega
  refine lv_aload_n hx hb dL_law_866 rfl (lv_at hl 1 rfl) ?_
  refine lv_aload_n hx hb dL_law_867 rfl (lv_at hl 0 rfl) ?_
  refine lv_iload hx hb dL_law_868 (lv_at hl 4 rfl) ?_
  refine lv_iconst (v := nI (1)) hx hb dL_law_870 (by decide) ?_
  refine gAdd (z := nI (i + 1)) hx hb dL_law_871 (nI_add _ _) ?_
  refine gScr (i := i + 1) (v := p) hx hb hX hbl hbA hS (by omega) hL9 ha1 dL_law_872 ?_
  refine lv_aload_n hx hb dL_law_873 rfl (lv_at hl 3 rfl) ?_
  refine kPreI (vx_runSW (As := [.ref (a 0), .int (p), .ref oa]) (rest := []) ⟨hx, hb, hml, hown, hts⟩ (c_L_bestMove_1 a v mo ki pr df co bi g9 lr bf tn ln nx ct hv v0 k0 v1 k1 oa of p (hbad) hfl (PP_l hP) ((pre_D hD).weaken (fun _ _ _ h => hLo _ h))) (vx_cwSW 3 hts gL_law_L_bestMove rfl rfl rfl (by decide +kernel) ⟨(Nat.le_of_ble_eq_true rfl), (Nat.le_of_ble_eq_true rfl)⟩) (preSX hCX hS hLo) rfl rfl hl.1 rfl (lv_room (Nat.le_of_ble_eq_true rfl)) dL_law_874 ⟨by show c0 + _ ≤ 601024; omega, by show s0 + _ ≤ 7293034; omega⟩) hP hD hS hA (fun _ => lw_fst) (fun r_3 u_1 H locs q_2 hP hD hS => ?_)
  have hP : PP G (lwW G a v mo ki pr df co bi g9 lr bf tn ln nx ct hv v0 k0 v1 k1 oa of mh m1 m2 m3 m4 m5 ss hi sl tx ne th kn ke le sp wr si on tw dn) H := hP
  have hD : va_D (lo G) (lwW G a v mo ki pr df co bi g9 lr bf tn ln nx ct hv v0 k0 v1 k1 oa of mh m1 m2 m3 m4 m5 ss hi sl tx ne th kn ke le sp wr si on tw dn) := hD
  refine topE (v' := nI (1)) (q_2) ?_
  refine lv_istore (lv' := [(5, .int (nI (1))), (0, .ref bq), (1, .ref (a 0)), (2, .ref mh), (3, .ref oa), (4, .int (nI (i)))]) hx hb dL_law_877 hl (by decide) rfl (fun ls hl => ?_)
  refine lv_aload_n hx hb dL_law_879 rfl (lv_at hl 3 rfl) ?_
  refine lv_aload_n hx hb dL_law_880 rfl (lv_at hl 1 rfl) ?_
  refine lv_iload hx hb dL_law_881 (lv_at hl 5 rfl) ?_
  refine lv_iconst (v := nI (1)) hx hb dL_law_883 (by decide) ?_
  refine gAdd (z := nI (i + 1)) hx hb dL_law_884 (nI_add _ _) ?_
  refine gScr (i := i + 1) (v := p) hx hb hX hbl hbA hS (by omega) hL9 ha1 dL_law_885 ?_
  refine kSufI (va_runV (As := [.int (p)]) (rest := []) ⟨hx, hb, hml, hown, hts⟩ (c_X9_bestMove_1 mh m1 m2 m3 m4 m5 ss hi sl tx ne th kn ke le sp wr si on tw dn p (hbad) (PP_r hP) ((pre_D (va_D_swap hD)).weaken (fun _ _ _ h => hLo _ h))) (cwV 1 hts gL_law_X9_bestMove rfl rfl rfl (by decide +kernel) ⟨(Nat.le_of_ble_eq_true rfl), (Nat.le_of_ble_eq_true rfl)⟩) (preV hC hS hLo (PP_r hP) (ci := 8) (q0 := 0) rfl rfl) rfl rfl hl.1 rfl (lv_room (Nat.le_of_ble_eq_true rfl)) dL_law_886 ⟨by show c0 + _ ≤ 601024; omega, by show s0 + _ ≤ 7293034; omega⟩) hP hD hS hA (fun _ => rfl) (fun r_6 u_4 H locs q_5 hP hD hS => ?_)
  have hP : PP G (lwW G a v mo ki pr df co bi g9 lr bf tn ln nx ct hv v0 k0 v1 k1 oa of mh m1 m2 m3 m4 m5 ss hi sl tx ne (nI 1) kn ke le sp wr si on tw dn) H := hP
  have hD : va_D (lo G) (lwW G a v mo ki pr df co bi g9 lr bf tn ln nx ct hv v0 k0 v1 k1 oa of mh m1 m2 m3 m4 m5 ss hi sl tx ne (nI 1) kn ke le sp wr si on tw dn) := hD
  refine topE (v' := nI (0)) (q_5) ?_
  refine lv_istore (lv' := [(6, .int (nI (0))), (5, .int (nI (1))), (0, .ref bq), (1, .ref (a 0)), (2, .ref mh), (3, .ref oa), (4, .int (nI (i)))]) hx hb dL_law_889 hl (by decide) rfl (fun ls hl => ?_)
  refine lv_aload_n hx hb dL_law_891 rfl (lv_at hl 4 rfl) ?_
  refine kPi (va_runV (As := []) (rest := []) ⟨hx, hb, hml, hown, hts⟩ (c_X9_thrown mh m1 m2 m3 m4 m5 ss hi sl tx ne (nI (1)) kn ke le sp wr si on tw dn (PP_r hP)) (cwV 0 hts gL_law_X9_thrown rfl rfl rfl (by decide +kernel) ⟨(Nat.le_of_ble_eq_true rfl), (Nat.le_of_ble_eq_true rfl)⟩) (preV hC hS hLo (PP_r hP) (ci := 8) (q0 := 0) rfl rfl) rfl rfl hl.1 rfl (lv_room (Nat.le_of_ble_eq_true rfl)) dL_law_892 ⟨by show c0 + _ ≤ 601024; omega, by show s0 + _ ≤ 7293034; omega⟩) hS (fun locs hS => ?_)
  refine lv_iload hx hb dL_law_895 (lv_at hl 1 rfl) ?_
  refine lv_icmp_eq (tgt := 902) hx hb dL_law_897 (by decide) (fun c_7 => ?_) (fun c_7 => ?_)
  · have f_8 := c_7
    refine lv_iload hx hb dL_law_902 (lv_at hl 1 rfl) ?_
    refine lv_if_ne (tgt := 919) hx hb dL_law_904 (by decide) (fun c_9 => ?_) (fun c_9 => ?_)
    · have f_10 : ¬ (1 : Int) = (0 : Int) := fun z => c_9 ((c_eq (nI_toInt (n := 1) (by omega)) rfl).mpr z)
      refine lv_goto (tgt := 1768) hx hb dL_law_919 (by decide) ?_
      exact hk H locs ls hP hD hS (lv_sub hl [2, 3, 4, 5, 6] rfl)
    · have f_11 : (1 : Int) = (0 : Int) := (c_eq (nI_toInt (n := 1) (by omega)) rfl).mp c_9
      exfalso; omega
  · have f_12 := c_7
    exact absurd rfl f_12

set_option maxHeartbeats 4000000 in
set_option maxRecDepth 100000 in
theorem lw_13_ok {pg : Program} {l : Launch} {ev : Env} {s : State} {m : MethodId} {below : List Frame} {meth : Method} {c : Code} {Q : State → Prop} {G : GT} {bq L : Nat} {xs : Nat → Int32} (hLK : LK pg l s m meth c bq L xs G) (c0 s0 : Nat) (hroom : c0 + 1 ≤ 601024 ∧ s0 + 6 ≤ 7293034) (a : Nat → Nat) (v : SVT) (mo ki : Nat → Nat) (pr df : Nat → Int) (co : Int32) (bi : Nat) (g9 : Nat → Int32) (lr : Nat) (bf : Nat → Int) (tn : Nat → Nat) (ln nx ct : Nat) (hv : Nat → SVT) (v0 : SVT) (k0 : Nat) (v1 : SVT) (k1 : Nat) (oa : Nat) (of : Nat → Int64) (mh m1 m2 m3 m4 m5 : Nat) (ss hi sl : Nat → Int) (tx : Nat → Nat) (ne : Nat → Int) (th : Int32) (kn ke le : Nat) (sp wr si on tw dn : Int32) (i : Nat) (b : Nat) (hi5 : i + 5 ≤ L) (ha1 : xs (i + 1) = nI (b)) (hd : R15 v.1) (ht : R15 v.2.1) (hb4 : b < 4) (hMR : MR ss) (heq : nI (BEST (dS ss) (tS ss) b) = nI ((bsS v.1 v.2.1 b 25).1)) {H : Heap} {locs : List Loc} {ls : Array Slot} (hP : PP G (lwW G a v mo ki pr df co bi g9 lr bf tn ln nx ct hv v0 k0 v1 k1 oa of mh m1 m2 m3 m4 m5 ss hi sl tx ne th kn ke le sp wr si on tw dn) H) (hD : va_D (lo G) (lwW G a v mo ki pr df co bi g9 lr bf tn ln nx ct hv v0 k0 v1 k1 oa of mh m1 m2 m3 m4 m5 ss hi sl tx ne th kn ke le sp wr si on tw dn)) (hS : va_S (lo G) s.heap H locs) (hl : lv_has ls 7 [(0, .ref bq), (1, .ref (a 0)), (2, .ref mh), (3, .ref oa), (4, .int (nI (i)))])
    (hk : ∀ (H : Heap) (locs : List Loc) (ls : Array Slot), PP G (lwW G a v mo ki pr df co bi g9 lr bf tn ln nx ct hv v0 k0 v1 k1 oa (vp_updL of 0 ((nI ((bsS v.1 v.2.1 b 25).1)).toInt64)) mh m1 m2 m3 m4 m5 ss hi sl tx ne (nI 0) kn ke le sp wr si on tw dn) H → va_D (lo G) (lwW G a v mo ki pr df co bi g9 lr bf tn ln nx ct hv v0 k0 v1 k1 oa (vp_updL of 0 ((nI ((bsS v.1 v.2.1 b 25).1)).toInt64)) mh m1 m2 m3 m4 m5 ss hi sl tx ne (nI 0) kn ke le sp wr si on tw dn) → va_S (lo G) s.heap H locs → lv_has ls 7 [(0, .ref bq), (1, .ref (a 0)), (2, .ref mh), (3, .ref oa), (4, .int (nI (i)))] → W pg l ev room_1 s m #[Value.ref bq] below meth c H locs (c0 + 0) (s0 + 0) Q (F0 m 1768 ls [])) :
    W pg l ev room_1 s m #[Value.ref bq] below meth c H locs c0 s0 Q (F0 m 922 ls []) := by
  obtain ⟨hx, hb, hml, hown, hts, hX, hbl, hCX, hgB, hfl, hL9⟩ := hLK
  have hC := hCX.1
  have hLo : ∀ q, lo G q → lo G q := fun _ h => h
  have hA : ∀ q, s.heap.size ≤ q → lo G q := fun q h => by show gB G ≤ q; rw [hgB]; exact h
  have hbA : ¬ lo G bq := by show ¬ gB G ≤ bq; rw [hgB]; omega
  refine lv_aload_n hx hb dL_law_922 rfl (lv_at hl 1 rfl) ?_
  refine lv_aload_n hx hb dL_law_923 rfl (lv_at hl 0 rfl) ?_
  refine lv_iload hx hb dL_law_924 (lv_at hl 4 rfl) ?_
  refine lv_iconst (v := nI (1)) hx hb dL_law_926 (by decide) ?_
  refine gAdd (z := nI (i + 1)) hx hb dL_law_927 (nI_add _ _) ?_
  refine gScr (i := i + 1) (v := nI (b)) hx hb hX hbl hbA hS (by omega) hL9 ha1 dL_law_928 ?_
  refine lv_aload_n hx hb dL_law_929 rfl (lv_at hl 3 rfl) ?_
  refine kPreI (vx_runSW (As := [.ref (a 0), .int (nI (b)), .ref oa]) (rest := []) ⟨hx, hb, hml, hown, hts⟩ (c_L_bestMoveByStopping a v mo ki pr df co bi g9 lr bf tn ln nx ct hv v0 k0 v1 k1 oa of b (hd) (ht) (hb4) (PP_l hP) ((pre_D hD).weaken (fun _ _ _ h => hLo _ h))) (vx_cwSW 3 hts gL_law_L_bestMoveByStopping rfl rfl rfl (by decide +kernel) ⟨(Nat.le_of_ble_eq_true rfl), (Nat.le_of_ble_eq_true rfl)⟩) (preS hC hS hLo) rfl rfl hl.1 rfl (lv_room (Nat.le_of_ble_eq_true rfl)) dL_law_930 ⟨by show c0 + _ ≤ 601024; omega, by show s0 + _ ≤ 7293034; omega⟩) hP hD hS hA (fun _ => lw_fst) (fun r_3 u_1 H locs q_2 hP hD hS => ?_)
  have hP : PP G (lwW G a v mo ki pr df co bi g9 lr bf tn ln nx ct hv v0 k0 v1 k1 oa (vp_updL of 0 ((nI ((bsS v.1 v.2.1 b 25).1)).toInt64)) mh m1 m2 m3 m4 m5 ss hi sl tx ne th kn ke le sp wr si on tw dn) H := hP
  have hD : va_D (lo G) (lwW G a v mo ki pr df co bi g9 lr bf tn ln nx ct hv v0 k0 v1 k1 oa (vp_updL of 0 ((nI ((bsS v.1 v.2.1 b 25).1)).toInt64)) mh m1 m2 m3 m4 m5 ss hi sl tx ne th kn ke le sp wr si on tw dn) := hD
  refine topE (v' := nI (0)) (q_2) ?_
  refine lv_istore (lv' := [(5, .int (nI (0))), (0, .ref bq), (1, .ref (a 0)), (2, .ref mh), (3, .ref oa), (4, .int (nI (i)))]) hx hb dL_law_933 hl (by decide) rfl (fun ls hl => ?_)
  refine lv_aload_n hx hb dL_law_935 rfl (lv_at hl 3 rfl) ?_
  refine lv_aload_n hx hb dL_law_936 rfl (lv_at hl 1 rfl) ?_
  refine lv_iload hx hb dL_law_937 (lv_at hl 5 rfl) ?_
  refine lv_iconst (v := nI (1)) hx hb dL_law_939 (by decide) ?_
  refine gAdd (z := nI (i + 1)) hx hb dL_law_940 (nI_add _ _) ?_
  refine gScr (i := i + 1) (v := nI (b)) hx hb hX hbl hbA hS (by omega) hL9 ha1 dL_law_941 ?_
  refine kSufI (va_runV (As := [.int (nI (b))]) (rest := []) ⟨hx, hb, hml, hown, hts⟩ (c_X9_bestMoveByStopping mh m1 m2 m3 m4 m5 ss hi sl tx ne th kn ke le sp wr si on tw dn b (hMR) (hb4) (PP_r hP) ((pre_D (va_D_swap hD)).weaken (fun _ _ _ h => hLo _ h))) (cwV 1 hts gL_law_X9_bestMoveByStopping rfl rfl rfl (by decide +kernel) ⟨(Nat.le_of_ble_eq_true rfl), (Nat.le_of_ble_eq_true rfl)⟩) (preV hC hS hLo (PP_r hP) (ci := 8) (q0 := 0) rfl rfl) rfl rfl hl.1 rfl (lv_room (Nat.le_of_ble_eq_true rfl)) dL_law_942 ⟨by show c0 + _ ≤ 601024; omega, by show s0 + _ ≤ 7293034; omega⟩) hP hD hS hA (fun _ => rfl) (fun r_6 u_4 H locs q_5 hP hD hS => ?_)
  have hP : PP G (lwW G a v mo ki pr df co bi g9 lr bf tn ln nx ct hv v0 k0 v1 k1 oa (vp_updL of 0 ((nI ((bsS v.1 v.2.1 b 25).1)).toInt64)) mh m1 m2 m3 m4 m5 ss hi sl tx ne (nI 0) kn ke le sp wr si on tw dn) H := hP
  have hD : va_D (lo G) (lwW G a v mo ki pr df co bi g9 lr bf tn ln nx ct hv v0 k0 v1 k1 oa (vp_updL of 0 ((nI ((bsS v.1 v.2.1 b 25).1)).toInt64)) mh m1 m2 m3 m4 m5 ss hi sl tx ne (nI 0) kn ke le sp wr si on tw dn) := hD
  refine topE (v' := nI ((bsS v.1 v.2.1 b 25).1)) (q_5.trans (heq)) ?_
  refine lv_istore (lv' := [(6, .int (nI ((bsS v.1 v.2.1 b 25).1))), (5, .int (nI (0))), (0, .ref bq), (1, .ref (a 0)), (2, .ref mh), (3, .ref oa), (4, .int (nI (i)))]) hx hb dL_law_945 hl (by decide) rfl (fun ls hl => ?_)
  refine lv_aload_n hx hb dL_law_947 rfl (lv_at hl 4 rfl) ?_
  refine kPi (va_runV (As := []) (rest := []) ⟨hx, hb, hml, hown, hts⟩ (c_X9_thrown mh m1 m2 m3 m4 m5 ss hi sl tx ne (nI (0)) kn ke le sp wr si on tw dn (PP_r hP)) (cwV 0 hts gL_law_X9_thrown rfl rfl rfl (by decide +kernel) ⟨(Nat.le_of_ble_eq_true rfl), (Nat.le_of_ble_eq_true rfl)⟩) (preV hC hS hLo (PP_r hP) (ci := 8) (q0 := 0) rfl rfl) rfl rfl hl.1 rfl (lv_room (Nat.le_of_ble_eq_true rfl)) dL_law_948 ⟨by show c0 + _ ≤ 601024; omega, by show s0 + _ ≤ 7293034; omega⟩) hS (fun locs hS => ?_)
  refine lv_iload hx hb dL_law_951 (lv_at hl 1 rfl) ?_
  refine lv_icmp_eq (tgt := 958) hx hb dL_law_953 (by decide) (fun c_7 => ?_) (fun c_7 => ?_)
  · have f_8 := c_7
    refine lv_iload hx hb dL_law_958 (lv_at hl 1 rfl) ?_
    refine lv_if_ne (tgt := 975) hx hb dL_law_960 (by decide) (fun c_9 => ?_) (fun c_9 => ?_)
    · have f_10 : ¬ (0 : Int) = (0 : Int) := fun z => c_9 ((c_eq (nI_toInt (n := 0) (by omega)) rfl).mpr z)
      exfalso; omega
    · have f_11 : (0 : Int) = (0 : Int) := (c_eq (nI_toInt (n := 0) (by omega)) rfl).mp c_9
      refine lv_aload_n hx hb dL_law_963 rfl (lv_at hl 5 rfl) ?_
      refine lv_iconst (v := nI (0)) hx hb dL_law_964 (by decide) ?_
      refine gLald (j := 0) hx hb hC.K (PP_r (PP_l hP)) 0 4 rfl rfl rfl (by decide) (by decide) dL_law_965 ?_
      refine W.eq (g2 := F0 m 966 ls [.long ((nI ((bsS v.1 v.2.1 b 25).1)).toInt64)]) rfl ?_
      refine lv_iload hx hb dL_law_966 (lv_at hl 0 rfl) ?_
      refine lv_i2l (v := (nI ((bsS v.1 v.2.1 b 25).1)).toInt64) hx hb dL_law_968 (rfl) ?_
      refine W.lcmp hx hb dL_law_969 ?_
      refine topE (v' := nI (0)) (lg_self _) ?_
      refine lv_if_eq (tgt := 975) hx hb dL_law_970 (by decide) (fun c_12 => ?_) (fun c_12 => ?_)
      · have f_13 : (0 : Int) = (0 : Int) := (c_eq (nI_toInt (n := 0) (by omega)) rfl).mp c_12
        refine lv_goto (tgt := 1768) hx hb dL_law_975 (by decide) ?_
        exact hk H locs ls hP hD hS (lv_sub hl [2, 3, 4, 5, 6] rfl)
      · have f_14 : ¬ (0 : Int) = (0 : Int) := fun z => c_12 ((c_eq (nI_toInt (n := 0) (by omega)) rfl).mpr z)
        exfalso; omega
  · have f_15 := c_7
    exact absurd rfl f_15

set_option maxHeartbeats 4000000 in
set_option maxRecDepth 100000 in
theorem lw_13_x1 {pg : Program} {l : Launch} {ev : Env} {s : State} {m : MethodId} {below : List Frame} {meth : Method} {c : Code} {Q : State → Prop} {G : GT} {bq L : Nat} {xs : Nat → Int32} (hLK : LK pg l s m meth c bq L xs G) (c0 s0 : Nat) (hroom : c0 + 1 ≤ 601024 ∧ s0 + 6 ≤ 7293034) (a : Nat → Nat) (v : SVT) (mo ki : Nat → Nat) (pr df : Nat → Int) (co : Int32) (bi : Nat) (g9 : Nat → Int32) (lr : Nat) (bf : Nat → Int) (tn : Nat → Nat) (ln nx ct : Nat) (hv : Nat → SVT) (v0 : SVT) (k0 : Nat) (v1 : SVT) (k1 : Nat) (oa : Nat) (of : Nat → Int64) (mh m1 m2 m3 m4 m5 : Nat) (ss hi sl : Nat → Int) (tx : Nat → Nat) (ne : Nat → Int) (th : Int32) (kn ke le : Nat) (sp wr si on tw dn : Int32) (i : Nat) (p : Int32) (hi5 : i + 5 ≤ L) (ha1 : xs (i + 1) = p) (hbad : p.toInt < 0 ∨ 4 ≤ p.toInt) {H : Heap} {locs : List Loc} {ls : Array Slot} (hP : PP G (lwW G a v mo ki pr df co bi g9 lr bf tn ln nx ct hv v0 k0 v1 k1 oa of mh m1 m2 m3 m4 m5 ss hi sl tx ne th kn ke le sp wr si on tw dn) H) (hD : va_D (lo G) (lwW G a v mo ki pr df co bi g9 lr bf tn ln nx ct hv v0 k0 v1 k1 oa of mh m1 m2 m3 m4 m5 ss hi sl tx ne th kn ke le sp wr si on tw dn)) (hS : va_S (lo G) s.heap H locs) (hl : lv_has ls 7 [(0, .ref bq), (1, .ref (a 0)), (2, .ref mh), (3, .ref oa), (4, .int (nI (i)))])
    (hk : ∀ (H : Heap) (locs : List Loc) (ls : Array Slot), PP G (lwW G a v mo ki pr df co bi g9 lr bf tn ln nx ct hv v0 k0 v1 k1 oa of mh m1 m2 m3 m4 m5 ss hi sl tx ne (nI 1) kn ke le sp wr si on tw dn) H → va_D (lo G) (lwW G a v mo ki pr df co bi g9 lr bf tn ln nx ct hv v0 k0 v1 k1 oa of mh m1 m2 m3 m4 m5 ss hi sl tx ne (nI 1) kn ke le sp wr si on tw dn) → va_S (lo G) s.heap H locs → lv_has ls 7 [(0, .ref bq), (1, .ref (a 0)), (2, .ref mh), (3, .ref oa), (4, .int (nI (i)))] → W pg l ev room_1 s m #[Value.ref bq] below meth c H locs (c0 + 1) (s0 + 6) Q (F0 m 1768 ls [])) :
    W pg l ev room_1 s m #[Value.ref bq] below meth c H locs c0 s0 Q (F0 m 922 ls []) := by
  obtain ⟨hx, hb, hml, hown, hts, hX, hbl, hCX, hgB, hfl, hL9⟩ := hLK
  have hC := hCX.1
  have hLo : ∀ q, lo G q → lo G q := fun _ h => h
  have hA : ∀ q, s.heap.size ≤ q → lo G q := fun q h => by show gB G ≤ q; rw [hgB]; exact h
  have hbA : ¬ lo G bq := by show ¬ gB G ≤ bq; rw [hgB]; omega
  refine lv_aload_n hx hb dL_law_922 rfl (lv_at hl 1 rfl) ?_
  refine lv_aload_n hx hb dL_law_923 rfl (lv_at hl 0 rfl) ?_
  refine lv_iload hx hb dL_law_924 (lv_at hl 4 rfl) ?_
  refine lv_iconst (v := nI (1)) hx hb dL_law_926 (by decide) ?_
  refine gAdd (z := nI (i + 1)) hx hb dL_law_927 (nI_add _ _) ?_
  refine gScr (i := i + 1) (v := p) hx hb hX hbl hbA hS (by omega) hL9 ha1 dL_law_928 ?_
  refine lv_aload_n hx hb dL_law_929 rfl (lv_at hl 3 rfl) ?_
  refine kPreI (vx_runSW (As := [.ref (a 0), .int (p), .ref oa]) (rest := []) ⟨hx, hb, hml, hown, hts⟩ (c_L_bestMoveByStopping_1 a v mo ki pr df co bi g9 lr bf tn ln nx ct hv v0 k0 v1 k1 oa of p (hbad) hfl (PP_l hP) ((pre_D hD).weaken (fun _ _ _ h => hLo _ h))) (vx_cwSW 3 hts gL_law_L_bestMoveByStopping rfl rfl rfl (by decide +kernel) ⟨(Nat.le_of_ble_eq_true rfl), (Nat.le_of_ble_eq_true rfl)⟩) (preSX hCX hS hLo) rfl rfl hl.1 rfl (lv_room (Nat.le_of_ble_eq_true rfl)) dL_law_930 ⟨by show c0 + _ ≤ 601024; omega, by show s0 + _ ≤ 7293034; omega⟩) hP hD hS hA (fun _ => lw_fst) (fun r_3 u_1 H locs q_2 hP hD hS => ?_)
  have hP : PP G (lwW G a v mo ki pr df co bi g9 lr bf tn ln nx ct hv v0 k0 v1 k1 oa of mh m1 m2 m3 m4 m5 ss hi sl tx ne th kn ke le sp wr si on tw dn) H := hP
  have hD : va_D (lo G) (lwW G a v mo ki pr df co bi g9 lr bf tn ln nx ct hv v0 k0 v1 k1 oa of mh m1 m2 m3 m4 m5 ss hi sl tx ne th kn ke le sp wr si on tw dn) := hD
  refine topE (v' := nI (1)) (q_2) ?_
  refine lv_istore (lv' := [(5, .int (nI (1))), (0, .ref bq), (1, .ref (a 0)), (2, .ref mh), (3, .ref oa), (4, .int (nI (i)))]) hx hb dL_law_933 hl (by decide) rfl (fun ls hl => ?_)
  refine lv_aload_n hx hb dL_law_935 rfl (lv_at hl 3 rfl) ?_
  refine lv_aload_n hx hb dL_law_936 rfl (lv_at hl 1 rfl) ?_
  refine lv_iload hx hb dL_law_937 (lv_at hl 5 rfl) ?_
  refine lv_iconst (v := nI (1)) hx hb dL_law_939 (by decide) ?_
  refine gAdd (z := nI (i + 1)) hx hb dL_law_940 (nI_add _ _) ?_
  refine gScr (i := i + 1) (v := p) hx hb hX hbl hbA hS (by omega) hL9 ha1 dL_law_941 ?_
  refine kSufI (va_runV (As := [.int (p)]) (rest := []) ⟨hx, hb, hml, hown, hts⟩ (c_X9_bestMoveByStopping_1 mh m1 m2 m3 m4 m5 ss hi sl tx ne th kn ke le sp wr si on tw dn p (hbad) (PP_r hP) ((pre_D (va_D_swap hD)).weaken (fun _ _ _ h => hLo _ h))) (cwV 1 hts gL_law_X9_bestMoveByStopping rfl rfl rfl (by decide +kernel) ⟨(Nat.le_of_ble_eq_true rfl), (Nat.le_of_ble_eq_true rfl)⟩) (preV hC hS hLo (PP_r hP) (ci := 8) (q0 := 0) rfl rfl) rfl rfl hl.1 rfl (lv_room (Nat.le_of_ble_eq_true rfl)) dL_law_942 ⟨by show c0 + _ ≤ 601024; omega, by show s0 + _ ≤ 7293034; omega⟩) hP hD hS hA (fun _ => rfl) (fun r_6 u_4 H locs q_5 hP hD hS => ?_)
  have hP : PP G (lwW G a v mo ki pr df co bi g9 lr bf tn ln nx ct hv v0 k0 v1 k1 oa of mh m1 m2 m3 m4 m5 ss hi sl tx ne (nI 1) kn ke le sp wr si on tw dn) H := hP
  have hD : va_D (lo G) (lwW G a v mo ki pr df co bi g9 lr bf tn ln nx ct hv v0 k0 v1 k1 oa of mh m1 m2 m3 m4 m5 ss hi sl tx ne (nI 1) kn ke le sp wr si on tw dn) := hD
  refine topE (v' := nI (0)) (q_5) ?_
  refine lv_istore (lv' := [(6, .int (nI (0))), (5, .int (nI (1))), (0, .ref bq), (1, .ref (a 0)), (2, .ref mh), (3, .ref oa), (4, .int (nI (i)))]) hx hb dL_law_945 hl (by decide) rfl (fun ls hl => ?_)
  refine lv_aload_n hx hb dL_law_947 rfl (lv_at hl 4 rfl) ?_
  refine kPi (va_runV (As := []) (rest := []) ⟨hx, hb, hml, hown, hts⟩ (c_X9_thrown mh m1 m2 m3 m4 m5 ss hi sl tx ne (nI (1)) kn ke le sp wr si on tw dn (PP_r hP)) (cwV 0 hts gL_law_X9_thrown rfl rfl rfl (by decide +kernel) ⟨(Nat.le_of_ble_eq_true rfl), (Nat.le_of_ble_eq_true rfl)⟩) (preV hC hS hLo (PP_r hP) (ci := 8) (q0 := 0) rfl rfl) rfl rfl hl.1 rfl (lv_room (Nat.le_of_ble_eq_true rfl)) dL_law_948 ⟨by show c0 + _ ≤ 601024; omega, by show s0 + _ ≤ 7293034; omega⟩) hS (fun locs hS => ?_)
  refine lv_iload hx hb dL_law_951 (lv_at hl 1 rfl) ?_
  refine lv_icmp_eq (tgt := 958) hx hb dL_law_953 (by decide) (fun c_7 => ?_) (fun c_7 => ?_)
  · have f_8 := c_7
    refine lv_iload hx hb dL_law_958 (lv_at hl 1 rfl) ?_
    refine lv_if_ne (tgt := 975) hx hb dL_law_960 (by decide) (fun c_9 => ?_) (fun c_9 => ?_)
    · have f_10 : ¬ (1 : Int) = (0 : Int) := fun z => c_9 ((c_eq (nI_toInt (n := 1) (by omega)) rfl).mpr z)
      refine lv_goto (tgt := 1768) hx hb dL_law_975 (by decide) ?_
      exact hk H locs ls hP hD hS (lv_sub hl [2, 3, 4, 5, 6] rfl)
    · have f_11 : (1 : Int) = (0 : Int) := (c_eq (nI_toInt (n := 1) (by omega)) rfl).mp c_9
      exfalso; omega
  · have f_12 := c_7
    exact absurd rfl f_12

set_option maxHeartbeats 4000000 in
set_option maxRecDepth 100000 in
theorem lw_14_ok {pg : Program} {l : Launch} {ev : Env} {s : State} {m : MethodId} {below : List Frame} {meth : Method} {c : Code} {Q : State → Prop} {G : GT} {bq L : Nat} {xs : Nat → Int32} (hLK : LK pg l s m meth c bq L xs G) (c0 s0 : Nat) (hroom : c0 + 1 ≤ 601024 ∧ s0 + 6 ≤ 7293034) (a : Nat → Nat) (v : SVT) (mo ki : Nat → Nat) (pr df : Nat → Int) (co : Int32) (bi : Nat) (g9 : Nat → Int32) (lr : Nat) (bf : Nat → Int) (tn : Nat → Nat) (ln nx ct : Nat) (hv : Nat → SVT) (v0 : SVT) (k0 : Nat) (v1 : SVT) (k1 : Nat) (oa : Nat) (of : Nat → Int64) (mh m1 m2 m3 m4 m5 : Nat) (ss hi sl : Nat → Int) (tx : Nat → Nat) (ne : Nat → Int) (th : Int32) (kn ke le : Nat) (sp wr si on tw dn : Int32) (i : Nat) (b : Nat) (hi5 : i + 5 ≤ L) (ha1 : xs (i + 1) = nI (b)) (hd : R15 v.1) (ht : R15 v.2.1) (hb4 : b < 4) (hMR : MR ss) (heq : nI (cntE (DIST (dS ss) (tS ss) b) (DIST (dS ss) (tS ss) b (BEST (dS ss) (tS ss) b)) 25) = nI ((cnt (DIST v.1 v.2.1 b) 25).1)) {H : Heap} {locs : List Loc} {ls : Array Slot} (hP : PP G (lwW G a v mo ki pr df co bi g9 lr bf tn ln nx ct hv v0 k0 v1 k1 oa of mh m1 m2 m3 m4 m5 ss hi sl tx ne th kn ke le sp wr si on tw dn) H) (hD : va_D (lo G) (lwW G a v mo ki pr df co bi g9 lr bf tn ln nx ct hv v0 k0 v1 k1 oa of mh m1 m2 m3 m4 m5 ss hi sl tx ne th kn ke le sp wr si on tw dn)) (hS : va_S (lo G) s.heap H locs) (hl : lv_has ls 7 [(0, .ref bq), (1, .ref (a 0)), (2, .ref mh), (3, .ref oa), (4, .int (nI (i)))])
    (hk : ∀ (H : Heap) (locs : List Loc) (ls : Array Slot), PP G (lwW G a v mo ki pr df co bi g9 lr bf tn ln nx ct hv v0 k0 v1 k1 oa (vp_updL of 0 ((nI ((cnt (DIST v.1 v.2.1 b) 25).1)).toInt64)) mh m1 m2 m3 m4 m5 ss hi sl tx ne (nI 0) kn ke le sp wr si on tw dn) H → va_D (lo G) (lwW G a v mo ki pr df co bi g9 lr bf tn ln nx ct hv v0 k0 v1 k1 oa (vp_updL of 0 ((nI ((cnt (DIST v.1 v.2.1 b) 25).1)).toInt64)) mh m1 m2 m3 m4 m5 ss hi sl tx ne (nI 0) kn ke le sp wr si on tw dn) → va_S (lo G) s.heap H locs → lv_has ls 7 [(0, .ref bq), (1, .ref (a 0)), (2, .ref mh), (3, .ref oa), (4, .int (nI (i)))] → W pg l ev room_1 s m #[Value.ref bq] below meth c H locs (c0 + 0) (s0 + 0) Q (F0 m 1768 ls [])) :
    W pg l ev room_1 s m #[Value.ref bq] below meth c H locs c0 s0 Q (F0 m 978 ls []) := by
  obtain ⟨hx, hb, hml, hown, hts, hX, hbl, hCX, hgB, hfl, hL9⟩ := hLK
  have hC := hCX.1
  have hLo : ∀ q, lo G q → lo G q := fun _ h => h
  have hA : ∀ q, s.heap.size ≤ q → lo G q := fun q h => by show gB G ≤ q; rw [hgB]; exact h
  have hbA : ¬ lo G bq := by show ¬ gB G ≤ bq; rw [hgB]; omega
  refine lv_aload_n hx hb dL_law_978 rfl (lv_at hl 1 rfl) ?_
  refine lv_aload_n hx hb dL_law_979 rfl (lv_at hl 0 rfl) ?_
  refine lv_iload hx hb dL_law_980 (lv_at hl 4 rfl) ?_
  refine lv_iconst (v := nI (1)) hx hb dL_law_982 (by decide) ?_
  refine gAdd (z := nI (i + 1)) hx hb dL_law_983 (nI_add _ _) ?_
  refine gScr (i := i + 1) (v := nI (b)) hx hb hX hbl hbA hS (by omega) hL9 ha1 dL_law_984 ?_
  refine lv_aload_n hx hb dL_law_985 rfl (lv_at hl 3 rfl) ?_
  refine kPreI (vx_runSW (As := [.ref (a 0), .int (nI (b)), .ref oa]) (rest := []) ⟨hx, hb, hml, hown, hts⟩ (c_L_equalMoves a v mo ki pr df co bi g9 lr bf tn ln nx ct hv v0 k0 v1 k1 oa of b (hd) (ht) (hb4) (PP_l hP) ((pre_D hD).weaken (fun _ _ _ h => hLo _ h))) (vx_cwSW 3 hts gL_law_L_equalMoves rfl rfl rfl (by decide +kernel) ⟨(Nat.le_of_ble_eq_true rfl), (Nat.le_of_ble_eq_true rfl)⟩) (preS hC hS hLo) rfl rfl hl.1 rfl (lv_room (Nat.le_of_ble_eq_true rfl)) dL_law_986 ⟨by show c0 + _ ≤ 601024; omega, by show s0 + _ ≤ 7293034; omega⟩) hP hD hS hA (fun _ => lw_fst) (fun r_3 u_1 H locs q_2 hP hD hS => ?_)
  have hP : PP G (lwW G a v mo ki pr df co bi g9 lr bf tn ln nx ct hv v0 k0 v1 k1 oa (vp_updL of 0 ((nI ((cnt (DIST v.1 v.2.1 b) 25).1)).toInt64)) mh m1 m2 m3 m4 m5 ss hi sl tx ne th kn ke le sp wr si on tw dn) H := hP
  have hD : va_D (lo G) (lwW G a v mo ki pr df co bi g9 lr bf tn ln nx ct hv v0 k0 v1 k1 oa (vp_updL of 0 ((nI ((cnt (DIST v.1 v.2.1 b) 25).1)).toInt64)) mh m1 m2 m3 m4 m5 ss hi sl tx ne th kn ke le sp wr si on tw dn) := hD
  refine topE (v' := nI (0)) (q_2) ?_
  refine lv_istore (lv' := [(5, .int (nI (0))), (0, .ref bq), (1, .ref (a 0)), (2, .ref mh), (3, .ref oa), (4, .int (nI (i)))]) hx hb dL_law_989 hl (by decide) rfl (fun ls hl => ?_)
  refine lv_aload_n hx hb dL_law_991 rfl (lv_at hl 3 rfl) ?_
  refine lv_aload_n hx hb dL_law_992 rfl (lv_at hl 1 rfl) ?_
  refine lv_iload hx hb dL_law_993 (lv_at hl 5 rfl) ?_
  refine lv_iconst (v := nI (1)) hx hb dL_law_995 (by decide) ?_
  refine gAdd (z := nI (i + 1)) hx hb dL_law_996 (nI_add _ _) ?_
  refine gScr (i := i + 1) (v := nI (b)) hx hb hX hbl hbA hS (by omega) hL9 ha1 dL_law_997 ?_
  refine kSufI (va_runV (As := [.int (nI (b))]) (rest := []) ⟨hx, hb, hml, hown, hts⟩ (c_X9_equalMoves mh m1 m2 m3 m4 m5 ss hi sl tx ne th kn ke le sp wr si on tw dn b (hMR) (hb4) (PP_r hP) ((pre_D (va_D_swap hD)).weaken (fun _ _ _ h => hLo _ h))) (cwV 1 hts gL_law_X9_equalMoves rfl rfl rfl (by decide +kernel) ⟨(Nat.le_of_ble_eq_true rfl), (Nat.le_of_ble_eq_true rfl)⟩) (preV hC hS hLo (PP_r hP) (ci := 8) (q0 := 0) rfl rfl) rfl rfl hl.1 rfl (lv_room (Nat.le_of_ble_eq_true rfl)) dL_law_998 ⟨by show c0 + _ ≤ 601024; omega, by show s0 + _ ≤ 7293034; omega⟩) hP hD hS hA (fun _ => rfl) (fun r_6 u_4 H locs q_5 hP hD hS => ?_)
  have hP : PP G (lwW G a v mo ki pr df co bi g9 lr bf tn ln nx ct hv v0 k0 v1 k1 oa (vp_updL of 0 ((nI ((cnt (DIST v.1 v.2.1 b) 25).1)).toInt64)) mh m1 m2 m3 m4 m5 ss hi sl tx ne (nI 0) kn ke le sp wr si on tw dn) H := hP
  have hD : va_D (lo G) (lwW G a v mo ki pr df co bi g9 lr bf tn ln nx ct hv v0 k0 v1 k1 oa (vp_updL of 0 ((nI ((cnt (DIST v.1 v.2.1 b) 25).1)).toInt64)) mh m1 m2 m3 m4 m5 ss hi sl tx ne (nI 0) kn ke le sp wr si on tw dn) := hD
  refine topE (v' := nI ((cnt (DIST v.1 v.2.1 b) 25).1)) (q_5.trans (heq)) ?_
  refine lv_istore (lv' := [(6, .int (nI ((cnt (DIST v.1 v.2.1 b) 25).1))), (5, .int (nI (0))), (0, .ref bq), (1, .ref (a 0)), (2, .ref mh), (3, .ref oa), (4, .int (nI (i)))]) hx hb dL_law_1001 hl (by decide) rfl (fun ls hl => ?_)
  refine lv_aload_n hx hb dL_law_1003 rfl (lv_at hl 4 rfl) ?_
  refine kPi (va_runV (As := []) (rest := []) ⟨hx, hb, hml, hown, hts⟩ (c_X9_thrown mh m1 m2 m3 m4 m5 ss hi sl tx ne (nI (0)) kn ke le sp wr si on tw dn (PP_r hP)) (cwV 0 hts gL_law_X9_thrown rfl rfl rfl (by decide +kernel) ⟨(Nat.le_of_ble_eq_true rfl), (Nat.le_of_ble_eq_true rfl)⟩) (preV hC hS hLo (PP_r hP) (ci := 8) (q0 := 0) rfl rfl) rfl rfl hl.1 rfl (lv_room (Nat.le_of_ble_eq_true rfl)) dL_law_1004 ⟨by show c0 + _ ≤ 601024; omega, by show s0 + _ ≤ 7293034; omega⟩) hS (fun locs hS => ?_)
  refine lv_iload hx hb dL_law_1007 (lv_at hl 1 rfl) ?_
  refine lv_icmp_eq (tgt := 1014) hx hb dL_law_1009 (by decide) (fun c_7 => ?_) (fun c_7 => ?_)
  · have f_8 := c_7
    refine lv_iload hx hb dL_law_1014 (lv_at hl 1 rfl) ?_
    refine lv_if_ne (tgt := 1031) hx hb dL_law_1016 (by decide) (fun c_9 => ?_) (fun c_9 => ?_)
    · have f_10 : ¬ (0 : Int) = (0 : Int) := fun z => c_9 ((c_eq (nI_toInt (n := 0) (by omega)) rfl).mpr z)
      exfalso; omega
    · have f_11 : (0 : Int) = (0 : Int) := (c_eq (nI_toInt (n := 0) (by omega)) rfl).mp c_9
      refine lv_aload_n hx hb dL_law_1019 rfl (lv_at hl 5 rfl) ?_
      refine lv_iconst (v := nI (0)) hx hb dL_law_1020 (by decide) ?_
      refine gLald (j := 0) hx hb hC.K (PP_r (PP_l hP)) 0 4 rfl rfl rfl (by decide) (by decide) dL_law_1021 ?_
      refine W.eq (g2 := F0 m 1022 ls [.long ((nI ((cnt (DIST v.1 v.2.1 b) 25).1)).toInt64)]) rfl ?_
      refine lv_iload hx hb dL_law_1022 (lv_at hl 0 rfl) ?_
      refine lv_i2l (v := (nI ((cnt (DIST v.1 v.2.1 b) 25).1)).toInt64) hx hb dL_law_1024 (rfl) ?_
      refine W.lcmp hx hb dL_law_1025 ?_
      refine topE (v' := nI (0)) (lg_self _) ?_
      refine lv_if_eq (tgt := 1031) hx hb dL_law_1026 (by decide) (fun c_12 => ?_) (fun c_12 => ?_)
      · have f_13 : (0 : Int) = (0 : Int) := (c_eq (nI_toInt (n := 0) (by omega)) rfl).mp c_12
        refine lv_goto (tgt := 1768) hx hb dL_law_1031 (by decide) ?_
        exact hk H locs ls hP hD hS (lv_sub hl [2, 3, 4, 5, 6] rfl)
      · have f_14 : ¬ (0 : Int) = (0 : Int) := fun z => c_12 ((c_eq (nI_toInt (n := 0) (by omega)) rfl).mpr z)
        exfalso; omega
  · have f_15 := c_7
    exact absurd rfl f_15

set_option maxHeartbeats 4000000 in
set_option maxRecDepth 100000 in
theorem lw_14_x1 {pg : Program} {l : Launch} {ev : Env} {s : State} {m : MethodId} {below : List Frame} {meth : Method} {c : Code} {Q : State → Prop} {G : GT} {bq L : Nat} {xs : Nat → Int32} (hLK : LK pg l s m meth c bq L xs G) (c0 s0 : Nat) (hroom : c0 + 1 ≤ 601024 ∧ s0 + 6 ≤ 7293034) (a : Nat → Nat) (v : SVT) (mo ki : Nat → Nat) (pr df : Nat → Int) (co : Int32) (bi : Nat) (g9 : Nat → Int32) (lr : Nat) (bf : Nat → Int) (tn : Nat → Nat) (ln nx ct : Nat) (hv : Nat → SVT) (v0 : SVT) (k0 : Nat) (v1 : SVT) (k1 : Nat) (oa : Nat) (of : Nat → Int64) (mh m1 m2 m3 m4 m5 : Nat) (ss hi sl : Nat → Int) (tx : Nat → Nat) (ne : Nat → Int) (th : Int32) (kn ke le : Nat) (sp wr si on tw dn : Int32) (i : Nat) (p : Int32) (hi5 : i + 5 ≤ L) (ha1 : xs (i + 1) = p) (hbad : p.toInt < 0 ∨ 4 ≤ p.toInt) {H : Heap} {locs : List Loc} {ls : Array Slot} (hP : PP G (lwW G a v mo ki pr df co bi g9 lr bf tn ln nx ct hv v0 k0 v1 k1 oa of mh m1 m2 m3 m4 m5 ss hi sl tx ne th kn ke le sp wr si on tw dn) H) (hD : va_D (lo G) (lwW G a v mo ki pr df co bi g9 lr bf tn ln nx ct hv v0 k0 v1 k1 oa of mh m1 m2 m3 m4 m5 ss hi sl tx ne th kn ke le sp wr si on tw dn)) (hS : va_S (lo G) s.heap H locs) (hl : lv_has ls 7 [(0, .ref bq), (1, .ref (a 0)), (2, .ref mh), (3, .ref oa), (4, .int (nI (i)))])
    (hk : ∀ (H : Heap) (locs : List Loc) (ls : Array Slot), PP G (lwW G a v mo ki pr df co bi g9 lr bf tn ln nx ct hv v0 k0 v1 k1 oa of mh m1 m2 m3 m4 m5 ss hi sl tx ne (nI 1) kn ke le sp wr si on tw dn) H → va_D (lo G) (lwW G a v mo ki pr df co bi g9 lr bf tn ln nx ct hv v0 k0 v1 k1 oa of mh m1 m2 m3 m4 m5 ss hi sl tx ne (nI 1) kn ke le sp wr si on tw dn) → va_S (lo G) s.heap H locs → lv_has ls 7 [(0, .ref bq), (1, .ref (a 0)), (2, .ref mh), (3, .ref oa), (4, .int (nI (i)))] → W pg l ev room_1 s m #[Value.ref bq] below meth c H locs (c0 + 1) (s0 + 6) Q (F0 m 1768 ls [])) :
    W pg l ev room_1 s m #[Value.ref bq] below meth c H locs c0 s0 Q (F0 m 978 ls []) := by
  obtain ⟨hx, hb, hml, hown, hts, hX, hbl, hCX, hgB, hfl, hL9⟩ := hLK
  have hC := hCX.1
  have hLo : ∀ q, lo G q → lo G q := fun _ h => h
  have hA : ∀ q, s.heap.size ≤ q → lo G q := fun q h => by show gB G ≤ q; rw [hgB]; exact h
  have hbA : ¬ lo G bq := by show ¬ gB G ≤ bq; rw [hgB]; omega
  refine lv_aload_n hx hb dL_law_978 rfl (lv_at hl 1 rfl) ?_
  refine lv_aload_n hx hb dL_law_979 rfl (lv_at hl 0 rfl) ?_
  refine lv_iload hx hb dL_law_980 (lv_at hl 4 rfl) ?_
  refine lv_iconst (v := nI (1)) hx hb dL_law_982 (by decide) ?_
  refine gAdd (z := nI (i + 1)) hx hb dL_law_983 (nI_add _ _) ?_
  refine gScr (i := i + 1) (v := p) hx hb hX hbl hbA hS (by omega) hL9 ha1 dL_law_984 ?_
  refine lv_aload_n hx hb dL_law_985 rfl (lv_at hl 3 rfl) ?_
  refine kPreI (vx_runSW (As := [.ref (a 0), .int (p), .ref oa]) (rest := []) ⟨hx, hb, hml, hown, hts⟩ (c_L_equalMoves_1 a v mo ki pr df co bi g9 lr bf tn ln nx ct hv v0 k0 v1 k1 oa of p (hbad) hfl (PP_l hP) ((pre_D hD).weaken (fun _ _ _ h => hLo _ h))) (vx_cwSW 3 hts gL_law_L_equalMoves rfl rfl rfl (by decide +kernel) ⟨(Nat.le_of_ble_eq_true rfl), (Nat.le_of_ble_eq_true rfl)⟩) (preSX hCX hS hLo) rfl rfl hl.1 rfl (lv_room (Nat.le_of_ble_eq_true rfl)) dL_law_986 ⟨by show c0 + _ ≤ 601024; omega, by show s0 + _ ≤ 7293034; omega⟩) hP hD hS hA (fun _ => lw_fst) (fun r_3 u_1 H locs q_2 hP hD hS => ?_)
  have hP : PP G (lwW G a v mo ki pr df co bi g9 lr bf tn ln nx ct hv v0 k0 v1 k1 oa of mh m1 m2 m3 m4 m5 ss hi sl tx ne th kn ke le sp wr si on tw dn) H := hP
  have hD : va_D (lo G) (lwW G a v mo ki pr df co bi g9 lr bf tn ln nx ct hv v0 k0 v1 k1 oa of mh m1 m2 m3 m4 m5 ss hi sl tx ne th kn ke le sp wr si on tw dn) := hD
  refine topE (v' := nI (1)) (q_2) ?_
  refine lv_istore (lv' := [(5, .int (nI (1))), (0, .ref bq), (1, .ref (a 0)), (2, .ref mh), (3, .ref oa), (4, .int (nI (i)))]) hx hb dL_law_989 hl (by decide) rfl (fun ls hl => ?_)
  refine lv_aload_n hx hb dL_law_991 rfl (lv_at hl 3 rfl) ?_
  refine lv_aload_n hx hb dL_law_992 rfl (lv_at hl 1 rfl) ?_
  refine lv_iload hx hb dL_law_993 (lv_at hl 5 rfl) ?_
  refine lv_iconst (v := nI (1)) hx hb dL_law_995 (by decide) ?_
  refine gAdd (z := nI (i + 1)) hx hb dL_law_996 (nI_add _ _) ?_
  refine gScr (i := i + 1) (v := p) hx hb hX hbl hbA hS (by omega) hL9 ha1 dL_law_997 ?_
  refine kSufI (va_runV (As := [.int (p)]) (rest := []) ⟨hx, hb, hml, hown, hts⟩ (c_X9_equalMoves_1 mh m1 m2 m3 m4 m5 ss hi sl tx ne th kn ke le sp wr si on tw dn p (hbad) (PP_r hP) ((pre_D (va_D_swap hD)).weaken (fun _ _ _ h => hLo _ h))) (cwV 1 hts gL_law_X9_equalMoves rfl rfl rfl (by decide +kernel) ⟨(Nat.le_of_ble_eq_true rfl), (Nat.le_of_ble_eq_true rfl)⟩) (preV hC hS hLo (PP_r hP) (ci := 8) (q0 := 0) rfl rfl) rfl rfl hl.1 rfl (lv_room (Nat.le_of_ble_eq_true rfl)) dL_law_998 ⟨by show c0 + _ ≤ 601024; omega, by show s0 + _ ≤ 7293034; omega⟩) hP hD hS hA (fun _ => rfl) (fun r_6 u_4 H locs q_5 hP hD hS => ?_)
  have hP : PP G (lwW G a v mo ki pr df co bi g9 lr bf tn ln nx ct hv v0 k0 v1 k1 oa of mh m1 m2 m3 m4 m5 ss hi sl tx ne (nI 1) kn ke le sp wr si on tw dn) H := hP
  have hD : va_D (lo G) (lwW G a v mo ki pr df co bi g9 lr bf tn ln nx ct hv v0 k0 v1 k1 oa of mh m1 m2 m3 m4 m5 ss hi sl tx ne (nI 1) kn ke le sp wr si on tw dn) := hD
  refine topE (v' := nI (0)) (q_5) ?_
  refine lv_istore (lv' := [(6, .int (nI (0))), (5, .int (nI (1))), (0, .ref bq), (1, .ref (a 0)), (2, .ref mh), (3, .ref oa), (4, .int (nI (i)))]) hx hb dL_law_1001 hl (by decide) rfl (fun ls hl => ?_)
  refine lv_aload_n hx hb dL_law_1003 rfl (lv_at hl 4 rfl) ?_
  refine kPi (va_runV (As := []) (rest := []) ⟨hx, hb, hml, hown, hts⟩ (c_X9_thrown mh m1 m2 m3 m4 m5 ss hi sl tx ne (nI (1)) kn ke le sp wr si on tw dn (PP_r hP)) (cwV 0 hts gL_law_X9_thrown rfl rfl rfl (by decide +kernel) ⟨(Nat.le_of_ble_eq_true rfl), (Nat.le_of_ble_eq_true rfl)⟩) (preV hC hS hLo (PP_r hP) (ci := 8) (q0 := 0) rfl rfl) rfl rfl hl.1 rfl (lv_room (Nat.le_of_ble_eq_true rfl)) dL_law_1004 ⟨by show c0 + _ ≤ 601024; omega, by show s0 + _ ≤ 7293034; omega⟩) hS (fun locs hS => ?_)
  refine lv_iload hx hb dL_law_1007 (lv_at hl 1 rfl) ?_
  refine lv_icmp_eq (tgt := 1014) hx hb dL_law_1009 (by decide) (fun c_7 => ?_) (fun c_7 => ?_)
  · have f_8 := c_7
    refine lv_iload hx hb dL_law_1014 (lv_at hl 1 rfl) ?_
    refine lv_if_ne (tgt := 1031) hx hb dL_law_1016 (by decide) (fun c_9 => ?_) (fun c_9 => ?_)
    · have f_10 : ¬ (1 : Int) = (0 : Int) := fun z => c_9 ((c_eq (nI_toInt (n := 1) (by omega)) rfl).mpr z)
      refine lv_goto (tgt := 1768) hx hb dL_law_1031 (by decide) ?_
      exact hk H locs ls hP hD hS (lv_sub hl [2, 3, 4, 5, 6] rfl)
    · have f_11 : (1 : Int) = (0 : Int) := (c_eq (nI_toInt (n := 1) (by omega)) rfl).mp c_9
      exfalso; omega
  · have f_12 := c_7
    exact absurd rfl f_12

set_option maxHeartbeats 4000000 in
set_option maxRecDepth 100000 in
theorem lw_15_ok {pg : Program} {l : Launch} {ev : Env} {s : State} {m : MethodId} {below : List Frame} {meth : Method} {c : Code} {Q : State → Prop} {G : GT} {bq L : Nat} {xs : Nat → Int32} (hLK : LK pg l s m meth c bq L xs G) (c0 s0 : Nat) (hroom : c0 + 1 ≤ 601024 ∧ s0 + 6 ≤ 7293034) (a : Nat → Nat) (v : SVT) (mo ki : Nat → Nat) (pr df : Nat → Int) (co : Int32) (bi : Nat) (g9 : Nat → Int32) (lr : Nat) (bf : Nat → Int) (tn : Nat → Nat) (ln nx ct : Nat) (hv : Nat → SVT) (v0 : SVT) (k0 : Nat) (v1 : SVT) (k1 : Nat) (oa : Nat) (of : Nat → Int64) (mh m1 m2 m3 m4 m5 : Nat) (ss hi sl : Nat → Int) (tx : Nat → Nat) (ne : Nat → Int) (th : Int32) (kn ke le : Nat) (sp wr si on tw dn : Int32) (i : Nat) (hi5 : i + 5 ≤ L) (hkd : 1 ≤ v.2.2.2.2.2.2.1 ∧ v.2.2.2.2.2.2.1 ≤ 20) (hpi : v.2.2.2.2.2.2.2.1 ≤ 999) (hMR : MR ss) (heq : bI ((ss 194).toNat % (ss 193).toNat = 0) = bI (v.2.2.2.2.2.2.2.1 % v.2.2.2.2.2.2.1 = 0)) {H : Heap} {locs : List Loc} {ls : Array Slot} (hP : PP G (lwW G a v mo ki pr df co bi g9 lr bf tn ln nx ct hv v0 k0 v1 k1 oa of mh m1 m2 m3 m4 m5 ss hi sl tx ne th kn ke le sp wr si on tw dn) H) (hD : va_D (lo G) (lwW G a v mo ki pr df co bi g9 lr bf tn ln nx ct hv v0 k0 v1 k1 oa of mh m1 m2 m3 m4 m5 ss hi sl tx ne th kn ke le sp wr si on tw dn)) (hS : va_S (lo G) s.heap H locs) (hl : lv_has ls 7 [(0, .ref bq), (1, .ref (a 0)), (2, .ref mh), (3, .ref oa), (4, .int (nI (i)))])
    (hk : ∀ (H : Heap) (locs : List Loc) (ls : Array Slot), PP G (lwW G a v mo ki pr df co bi g9 lr bf tn ln nx ct hv v0 k0 v1 k1 oa of mh m1 m2 m3 m4 m5 ss hi sl tx ne (nI 0) kn ke le sp wr si on tw dn) H → va_D (lo G) (lwW G a v mo ki pr df co bi g9 lr bf tn ln nx ct hv v0 k0 v1 k1 oa of mh m1 m2 m3 m4 m5 ss hi sl tx ne (nI 0) kn ke le sp wr si on tw dn) → va_S (lo G) s.heap H locs → lv_has ls 7 [(0, .ref bq), (1, .ref (a 0)), (2, .ref mh), (3, .ref oa), (4, .int (nI (i)))] → W pg l ev room_1 s m #[Value.ref bq] below meth c H locs (c0 + 0) (s0 + 0) Q (F0 m 1768 ls [])) :
    W pg l ev room_1 s m #[Value.ref bq] below meth c H locs c0 s0 Q (F0 m 1034 ls []) := by
  obtain ⟨hx, hb, hml, hown, hts, hX, hbl, hCX, hgB, hfl, hL9⟩ := hLK
  have hC := hCX.1
  have hLo : ∀ q, lo G q → lo G q := fun _ h => h
  have hA : ∀ q, s.heap.size ≤ q → lo G q := fun q h => by show gB G ≤ q; rw [hgB]; exact h
  have hbA : ¬ lo G bq := by show ¬ gB G ≤ bq; rw [hgB]; omega
  refine lv_aload_n hx hb dL_law_1034 rfl (lv_at hl 1 rfl) ?_
  refine kPi (va_runV (As := []) (rest := []) ⟨hx, hb, hml, hown, hts⟩ (c_X8_isKeyNext a v (hkd) (hpi) (xW_now (PP_l (PP_l hP)))) (cwV 0 hts gL_law_X8_isKeyNext rfl rfl rfl (by decide +kernel) ⟨(Nat.le_of_ble_eq_true rfl), (Nat.le_of_ble_eq_true rfl)⟩) (preV hC hS hLo hP (ci := 7) (q0 := 0) rfl rfl) rfl rfl hl.1 rfl (lv_room (Nat.le_of_ble_eq_true rfl)) dL_law_1035 ⟨by show c0 + _ ≤ 601024; omega, by show s0 + _ ≤ 7293034; omega⟩) hS (fun locs hS => ?_)
  refine lv_aload_n hx hb dL_law_1038 rfl (lv_at hl 2 rfl) ?_
  refine kSufI (va_runV (As := []) (rest := [.int (bI (v.2.2.2.2.2.2.2.1 % v.2.2.2.2.2.2.1 = 0))]) ⟨hx, hb, hml, hown, hts⟩ (c_X9_isKeyNext mh m1 m2 m3 m4 m5 ss hi sl tx ne th kn ke le sp wr si on tw dn (hMR) (PP_r hP) ((pre_D (va_D_swap hD)).weaken (fun _ _ _ h => hLo _ h))) (cwV 0 hts gL_law_X9_isKeyNext rfl rfl rfl (by decide +kernel) ⟨(Nat.le_of_ble_eq_true rfl), (Nat.le_of_ble_eq_true rfl)⟩) (preV hC hS hLo (PP_r hP) (ci := 8) (q0 := 0) rfl rfl) rfl rfl hl.1 rfl (lv_room (Nat.le_of_ble_eq_true rfl)) dL_law_1039 ⟨by show c0 + _ ≤ 601024; omega, by show s0 + _ ≤ 7293034; omega⟩) hP hD hS hA (fun _ => rfl) (fun r_3 u_1 H locs q_2 hP hD hS => ?_)
  have hP : PP G (lwW G a v mo ki pr df co bi g9 lr bf tn ln nx ct hv v0 k0 v1 k1 oa of mh m1 m2 m3 m4 m5 ss hi sl tx ne (nI 0) kn ke le sp wr si on tw dn) H := hP
  have hD : va_D (lo G) (lwW G a v mo ki pr df co bi g9 lr bf tn ln nx ct hv v0 k0 v1 k1 oa of mh m1 m2 m3 m4 m5 ss hi sl tx ne (nI 0) kn ke le sp wr si on tw dn) := hD
  refine topE (v' := bI (v.2.2.2.2.2.2.2.1 % v.2.2.2.2.2.2.1 = 0)) (q_2.trans (heq)) ?_
  refine lv_icmp_eq (tgt := 1768) hx hb dL_law_1042 (by decide) (fun c_4 => ?_) (fun c_4 => ?_)
  · have f_5 := c_4
    exact hk H locs ls hP hD hS (lv_sub hl [0, 1, 2, 3, 4] rfl)
  · have f_6 := c_4
    exact absurd rfl f_6

set_option maxHeartbeats 4000000 in
set_option maxRecDepth 100000 in
theorem lw_16_ok {pg : Program} {l : Launch} {ev : Env} {s : State} {m : MethodId} {below : List Frame} {meth : Method} {c : Code} {Q : State → Prop} {G : GT} {bq L : Nat} {xs : Nat → Int32} (hLK : LK pg l s m meth c bq L xs G) (c0 s0 : Nat) (hroom : c0 + 1 ≤ 601024 ∧ s0 + 6 ≤ 7293034) (a : Nat → Nat) (v : SVT) (mo ki : Nat → Nat) (pr df : Nat → Int) (co : Int32) (bi : Nat) (g9 : Nat → Int32) (lr : Nat) (bf : Nat → Int) (tn : Nat → Nat) (ln nx ct : Nat) (hv : Nat → SVT) (v0 : SVT) (k0 : Nat) (v1 : SVT) (k1 : Nat) (oa : Nat) (of : Nat → Int64) (mh m1 m2 m3 m4 m5 : Nat) (ss hi sl : Nat → Int) (tx : Nat → Nat) (ne : Nat → Int) (th : Int32) (kn ke le : Nat) (sp wr si on tw dn : Int32) (i : Nat) (b q : Nat) (hi5 : i + 5 ≤ L) (ha1 : xs (i + 1) = nI (b)) (ha2 : xs (i + 2) = nI (q)) (hd : R15 v.1) (ht : R15 v.2.1) (hdf : D15 df) (hmo : M25 mo) (hb4 : b < 4) (hq : 1 ≤ q ∧ q ≤ 8) (hMR : MR ss) (heq : nI (KDM (dS ss) (tS ss) b q) = nI (KDM v.1 v.2.1 b q)) {H : Heap} {locs : List Loc} {ls : Array Slot} (hP : PP G (lwW G a v mo ki pr df co bi g9 lr bf tn ln nx ct hv v0 k0 v1 k1 oa of mh m1 m2 m3 m4 m5 ss hi sl tx ne th kn ke le sp wr si on tw dn) H) (hD : va_D (lo G) (lwW G a v mo ki pr df co bi g9 lr bf tn ln nx ct hv v0 k0 v1 k1 oa of mh m1 m2 m3 m4 m5 ss hi sl tx ne th kn ke le sp wr si on tw dn)) (hS : va_S (lo G) s.heap H locs) (hl : lv_has ls 7 [(0, .ref bq), (1, .ref (a 0)), (2, .ref mh), (3, .ref oa), (4, .int (nI (i)))])
    (hk : ∀ (H : Heap) (locs : List Loc) (ls : Array Slot), PP G (lwW G a v (va_up mo b (BEST v.1 v.2.1 b)) (va_up ki b (kdW ((va_up mo b (BEST v.1 v.2.1 b)) b) (LB (fdS v.1 v.2.1 b (BEST v.1 v.2.1 b) df 16) b q 16))) (fpS v.2.1 b (BEST v.1 v.2.1 b) pr 16) (fdS v.1 v.2.1 b (BEST v.1 v.2.1 b) df 16) co bi g9 lr bf tn ln nx ct hv v0 k0 v1 k1 oa (vp_updL of 0 ((nI (KDM v.1 v.2.1 b q)).toInt64)) mh m1 m2 m3 m4 m5 ss hi sl tx ne (nI 0) kn ke le sp wr si on tw dn) H → va_D (lo G) (lwW G a v (va_up mo b (BEST v.1 v.2.1 b)) (va_up ki b (kdW ((va_up mo b (BEST v.1 v.2.1 b)) b) (LB (fdS v.1 v.2.1 b (BEST v.1 v.2.1 b) df 16) b q 16))) (fpS v.2.1 b (BEST v.1 v.2.1 b) pr 16) (fdS v.1 v.2.1 b (BEST v.1 v.2.1 b) df 16) co bi g9 lr bf tn ln nx ct hv v0 k0 v1 k1 oa (vp_updL of 0 ((nI (KDM v.1 v.2.1 b q)).toInt64)) mh m1 m2 m3 m4 m5 ss hi sl tx ne (nI 0) kn ke le sp wr si on tw dn) → va_S (lo G) s.heap H locs → lv_has ls 7 [(0, .ref bq), (1, .ref (a 0)), (2, .ref mh), (3, .ref oa), (4, .int (nI (i)))] → W pg l ev room_1 s m #[Value.ref bq] below meth c H locs (c0 + 0) (s0 + 0) Q (F0 m 1768 ls [])) :
    W pg l ev room_1 s m #[Value.ref bq] below meth c H locs c0 s0 Q (F0 m 1047 ls []) := by
  obtain ⟨hx, hb, hml, hown, hts, hX, hbl, hCX, hgB, hfl, hL9⟩ := hLK
  have hC := hCX.1
  have hLo : ∀ q, lo G q → lo G q := fun _ h => h
  have hA : ∀ q, s.heap.size ≤ q → lo G q := fun q h => by show gB G ≤ q; rw [hgB]; exact h
  have hbA : ¬ lo G bq := by show ¬ gB G ≤ bq; rw [hgB]; omega
  refine lv_aload_n hx hb dL_law_1047 rfl (lv_at hl 1 rfl) ?_
  refine lv_aload_n hx hb dL_law_1048 rfl (lv_at hl 0 rfl) ?_
  refine lv_iload hx hb dL_law_1049 (lv_at hl 4 rfl) ?_
  refine lv_iconst (v := nI (1)) hx hb dL_law_1051 (by decide) ?_
  refine gAdd (z := nI (i + 1)) hx hb dL_law_1052 (nI_add _ _) ?_
  refine gScr (i := i + 1) (v := nI (b)) hx hb hX hbl hbA hS (by omega) hL9 ha1 dL_law_1053 ?_
  refine lv_aload_n hx hb dL_law_1054 rfl (lv_at hl 0 rfl) ?_
  refine lv_iload hx hb dL_law_1055 (lv_at hl 4 rfl) ?_
  refine lv_iconst (v := nI (2)) hx hb dL_law_1057 (by decide) ?_
  refine gAdd (z := nI (i + 2)) hx hb dL_law_1058 (nI_add _ _) ?_
  refine gScr (i := i + 2) (v := nI (q)) hx hb hX hbl hbA hS (by omega) hL9 ha2 dL_law_1059 ?_
  refine lv_aload_n hx hb dL_law_1060 rfl (lv_at hl 3 rfl) ?_
  refine kPreI (vx_runSW (As := [.ref (a 0), .int (nI (b)), .int (nI (q)), .ref oa]) (rest := []) ⟨hx, hb, hml, hown, hts⟩ (c_L_kindWith a v mo ki pr df co bi g9 lr bf tn ln nx ct hv v0 k0 v1 k1 oa of b q (hd) (ht) (hdf) (hmo) (hb4) (hq) (PP_l hP) ((pre_D hD).weaken (fun _ _ _ h => hLo _ h))) (vx_cwSW 4 hts gL_law_L_kindWith rfl rfl rfl (by decide +kernel) ⟨(Nat.le_of_ble_eq_true rfl), (Nat.le_of_ble_eq_true rfl)⟩) (preS hC hS hLo) rfl rfl hl.1 rfl (lv_room (Nat.le_of_ble_eq_true rfl)) dL_law_1061 ⟨by show c0 + _ ≤ 601024; omega, by show s0 + _ ≤ 7293034; omega⟩) hP hD hS hA (fun _ => lw_fst) (fun r_3 u_1 H locs q_2 hP hD hS => ?_)
  have hP : PP G (lwW G a v (va_up mo b (BEST v.1 v.2.1 b)) (va_up ki b (kdW ((va_up mo b (BEST v.1 v.2.1 b)) b) (LB (fdS v.1 v.2.1 b (BEST v.1 v.2.1 b) df 16) b q 16))) (fpS v.2.1 b (BEST v.1 v.2.1 b) pr 16) (fdS v.1 v.2.1 b (BEST v.1 v.2.1 b) df 16) co bi g9 lr bf tn ln nx ct hv v0 k0 v1 k1 oa (vp_updL of 0 ((nI (KDM v.1 v.2.1 b q)).toInt64)) mh m1 m2 m3 m4 m5 ss hi sl tx ne th kn ke le sp wr si on tw dn) H := hP
  have hD : va_D (lo G) (lwW G a v (va_up mo b (BEST v.1 v.2.1 b)) (va_up ki b (kdW ((va_up mo b (BEST v.1 v.2.1 b)) b) (LB (fdS v.1 v.2.1 b (BEST v.1 v.2.1 b) df 16) b q 16))) (fpS v.2.1 b (BEST v.1 v.2.1 b) pr 16) (fdS v.1 v.2.1 b (BEST v.1 v.2.1 b) df 16) co bi g9 lr bf tn ln nx ct hv v0 k0 v1 k1 oa (vp_updL of 0 ((nI (KDM v.1 v.2.1 b q)).toInt64)) mh m1 m2 m3 m4 m5 ss hi sl tx ne th kn ke le sp wr si on tw dn) := hD
  refine topE (v' := nI (0)) (q_2) ?_
  refine lv_istore (lv' := [(5, .int (nI (0))), (0, .ref bq), (1, .ref (a 0)), (2, .ref mh), (3, .ref oa), (4, .int (nI (i)))]) hx hb dL_law_1064 hl (by decide) rfl (fun ls hl => ?_)
  refine lv_aload_n hx hb dL_law_1066 rfl (lv_at hl 3 rfl) ?_
  refine lv_aload_n hx hb dL_law_1067 rfl (lv_at hl 1 rfl) ?_
  refine lv_iload hx hb dL_law_1068 (lv_at hl 5 rfl) ?_
  refine lv_iconst (v := nI (1)) hx hb dL_law_1070 (by decide) ?_
  refine gAdd (z := nI (i + 1)) hx hb dL_law_1071 (nI_add _ _) ?_
  refine gScr (i := i + 1) (v := nI (b)) hx hb hX hbl hbA hS (by omega) hL9 ha1 dL_law_1072 ?_
  refine lv_aload_n hx hb dL_law_1073 rfl (lv_at hl 1 rfl) ?_
  refine lv_iload hx hb dL_law_1074 (lv_at hl 5 rfl) ?_
  refine lv_iconst (v := nI (2)) hx hb dL_law_1076 (by decide) ?_
  refine gAdd (z := nI (i + 2)) hx hb dL_law_1077 (nI_add _ _) ?_
  refine gScr (i := i + 2) (v := nI (q)) hx hb hX hbl hbA hS (by omega) hL9 ha2 dL_law_1078 ?_
  refine kSufI (va_runV (As := [.int (nI (b)), .int (nI (q))]) (rest := []) ⟨hx, hb, hml, hown, hts⟩ (c_X9_kindWith mh m1 m2 m3 m4 m5 ss hi sl tx ne th kn ke le sp wr si on tw dn b q (hMR) (hb4) (hq) (PP_r hP) ((pre_D (va_D_swap hD)).weaken (fun _ _ _ h => hLo _ h))) (cwV 2 hts gL_law_X9_kindWith rfl rfl rfl (by decide +kernel) ⟨(Nat.le_of_ble_eq_true rfl), (Nat.le_of_ble_eq_true rfl)⟩) (preV hC hS hLo (PP_r hP) (ci := 8) (q0 := 0) rfl rfl) rfl rfl hl.1 rfl (lv_room (Nat.le_of_ble_eq_true rfl)) dL_law_1079 ⟨by show c0 + _ ≤ 601024; omega, by show s0 + _ ≤ 7293034; omega⟩) hP hD hS hA (fun _ => rfl) (fun r_6 u_4 H locs q_5 hP hD hS => ?_)
  have hP : PP G (lwW G a v (va_up mo b (BEST v.1 v.2.1 b)) (va_up ki b (kdW ((va_up mo b (BEST v.1 v.2.1 b)) b) (LB (fdS v.1 v.2.1 b (BEST v.1 v.2.1 b) df 16) b q 16))) (fpS v.2.1 b (BEST v.1 v.2.1 b) pr 16) (fdS v.1 v.2.1 b (BEST v.1 v.2.1 b) df 16) co bi g9 lr bf tn ln nx ct hv v0 k0 v1 k1 oa (vp_updL of 0 ((nI (KDM v.1 v.2.1 b q)).toInt64)) mh m1 m2 m3 m4 m5 ss hi sl tx ne (nI 0) kn ke le sp wr si on tw dn) H := hP
  have hD : va_D (lo G) (lwW G a v (va_up mo b (BEST v.1 v.2.1 b)) (va_up ki b (kdW ((va_up mo b (BEST v.1 v.2.1 b)) b) (LB (fdS v.1 v.2.1 b (BEST v.1 v.2.1 b) df 16) b q 16))) (fpS v.2.1 b (BEST v.1 v.2.1 b) pr 16) (fdS v.1 v.2.1 b (BEST v.1 v.2.1 b) df 16) co bi g9 lr bf tn ln nx ct hv v0 k0 v1 k1 oa (vp_updL of 0 ((nI (KDM v.1 v.2.1 b q)).toInt64)) mh m1 m2 m3 m4 m5 ss hi sl tx ne (nI 0) kn ke le sp wr si on tw dn) := hD
  refine topE (v' := nI (KDM v.1 v.2.1 b q)) (q_5.trans (heq)) ?_
  refine lv_istore (lv' := [(6, .int (nI (KDM v.1 v.2.1 b q))), (5, .int (nI (0))), (0, .ref bq), (1, .ref (a 0)), (2, .ref mh), (3, .ref oa), (4, .int (nI (i)))]) hx hb dL_law_1082 hl (by decide) rfl (fun ls hl => ?_)
  refine lv_aload_n hx hb dL_law_1084 rfl (lv_at hl 4 rfl) ?_
  refine kPi (va_runV (As := []) (rest := []) ⟨hx, hb, hml, hown, hts⟩ (c_X9_thrown mh m1 m2 m3 m4 m5 ss hi sl tx ne (nI (0)) kn ke le sp wr si on tw dn (PP_r hP)) (cwV 0 hts gL_law_X9_thrown rfl rfl rfl (by decide +kernel) ⟨(Nat.le_of_ble_eq_true rfl), (Nat.le_of_ble_eq_true rfl)⟩) (preV hC hS hLo (PP_r hP) (ci := 8) (q0 := 0) rfl rfl) rfl rfl hl.1 rfl (lv_room (Nat.le_of_ble_eq_true rfl)) dL_law_1085 ⟨by show c0 + _ ≤ 601024; omega, by show s0 + _ ≤ 7293034; omega⟩) hS (fun locs hS => ?_)
  refine lv_iload hx hb dL_law_1088 (lv_at hl 1 rfl) ?_
  refine lv_icmp_eq (tgt := 1095) hx hb dL_law_1090 (by decide) (fun c_7 => ?_) (fun c_7 => ?_)
  · have f_8 := c_7
    refine lv_iload hx hb dL_law_1095 (lv_at hl 1 rfl) ?_
    refine lv_if_ne (tgt := 1112) hx hb dL_law_1097 (by decide) (fun c_9 => ?_) (fun c_9 => ?_)
    · have f_10 : ¬ (0 : Int) = (0 : Int) := fun z => c_9 ((c_eq (nI_toInt (n := 0) (by omega)) rfl).mpr z)
      exfalso; omega
    · have f_11 : (0 : Int) = (0 : Int) := (c_eq (nI_toInt (n := 0) (by omega)) rfl).mp c_9
      refine lv_aload_n hx hb dL_law_1100 rfl (lv_at hl 5 rfl) ?_
      refine lv_iconst (v := nI (0)) hx hb dL_law_1101 (by decide) ?_
      refine gLald (j := 0) hx hb hC.K (PP_r (PP_l hP)) 0 4 rfl rfl rfl (by decide) (by decide) dL_law_1102 ?_
      refine W.eq (g2 := F0 m 1103 ls [.long ((nI (KDM v.1 v.2.1 b q)).toInt64)]) rfl ?_
      refine lv_iload hx hb dL_law_1103 (lv_at hl 0 rfl) ?_
      refine lv_i2l (v := (nI (KDM v.1 v.2.1 b q)).toInt64) hx hb dL_law_1105 (rfl) ?_
      refine W.lcmp hx hb dL_law_1106 ?_
      refine topE (v' := nI (0)) (lg_self _) ?_
      refine lv_if_eq (tgt := 1112) hx hb dL_law_1107 (by decide) (fun c_12 => ?_) (fun c_12 => ?_)
      · have f_13 : (0 : Int) = (0 : Int) := (c_eq (nI_toInt (n := 0) (by omega)) rfl).mp c_12
        refine lv_goto (tgt := 1768) hx hb dL_law_1112 (by decide) ?_
        exact hk H locs ls hP hD hS (lv_sub hl [2, 3, 4, 5, 6] rfl)
      · have f_14 : ¬ (0 : Int) = (0 : Int) := fun z => c_12 ((c_eq (nI_toInt (n := 0) (by omega)) rfl).mpr z)
        exfalso; omega
  · have f_15 := c_7
    exact absurd rfl f_15
