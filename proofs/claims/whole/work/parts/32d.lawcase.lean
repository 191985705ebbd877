set_option maxHeartbeats 4000000 in
set_option maxRecDepth 100000 in
theorem lw_16_x1 {pg : Program} {l : Launch} {ev : Env} {s : State} {m : MethodId} {below : List Frame} {meth : Method} {c : Code} {Q : State → Prop} {G : GT} {bq L : Nat} {xs : Nat → Int32} (hLK : LK pg l s m meth c bq L xs G) (c0 s0 : Nat) (hroom : c0 + 1 ≤ 601024 ∧ s0 + 6 ≤ 7293034) (a : Nat → Nat) (v : SVT) (mo ki : Nat → Nat) (pr df : Nat → Int) (co : Int32) (bi : Nat) (g9 : Nat → Int32) (lr : Nat) (bf : Nat → Int) (tn : Nat → Nat) (ln nx ct : Nat) (hv : Nat → SVT) (v0 : SVT) (k0 : Nat) (v1 : SVT) (k1 : Nat) (oa : Nat) (of : Nat → Int64) (mh m1 m2 m3 m4 m5 : Nat) (ss hi sl : Nat → Int) (tx : Nat → Nat) (ne : Nat → Int) (th : Int32) (kn ke le : Nat) (sp wr si on tw dn : Int32) (i : Nat) (p x0 : Int32) (hi5 : i + 5 ≤ L) (ha1 : xs (i + 1) = p) (ha2 : xs (i + 2) = x0) (hbad : p.toInt < 0 ∨ 4 ≤ p.toInt) {H : Heap} {locs : List Loc} {ls : Array Slot} (hP : PP G (lwW G a v mo ki pr df co bi g9 lr bf tn ln nx ct hv v0 k0 v1 k1 oa of mh m1 m2 m3 m4 m5 ss hi sl tx ne th kn ke le sp wr si on tw dn) H) (hD : va_D (lo G) (lwW G a v mo ki pr df co bi g9 lr bf tn ln nx ct hv v0 k0 v1 k1 oa of mh m1 m2 m3 m4 m5 ss hi sl tx ne th kn ke le sp wr si on tw dn)) (hS : va_S (lo G) s.heap H locs) (hl : lv_has ls 7 [(0, .ref bq), (1, .ref (a 0)), (2, .ref mh), (3, .ref oa), (4, .int (nI (i)))])
    (hk : ∀ (H : Heap) (locs : List Loc) (ls : Array Slot), PP G (lwW G a v mo ki pr df co bi g9 lr bf tn ln nx ct hv v0 k0 v1 k1 oa of mh m1 m2 m3 m4 m5 ss hi sl tx ne (nI 1) kn ke le sp wr si on tw dn) H → va_D (lo G) (lwW G a v mo ki pr df co bi g9 lr bf tn ln nx ct hv v0 k0 v1 k1 oa of mh m1 m2 m3 m4 m5 ss hi sl tx ne (nI 1) kn ke le sp wr si on tw dn) → va_S (lo G) s.heap H locs → lv_has ls 7 [(0, .ref bq), (1, .ref (a 0)), (2, .ref mh), (3, .ref oa), (4, .int (nI (i)))] → W pg l ev room_1 s m #[Value.ref bq] below meth c H locs (c0 + 1) (s0 + 6) Q (F0 m 1768 ls [])) :
    W pg l ev room_1 s m #[Value.ref bq] below meth c H locs c0 s0 Q (F0 m 1047 ls []) := by
  obtain ⟨hx, hb, hml, hown, hts, hX, hbl, hCX, hgB, hfl, hL9⟩ := hLK
  have hC := hCX.1
  have hLo : ∀ q, lo G q → lo G q := fun _ h => h
  have hA : ∀ q, s.heap.size ≤ q → lo G q := fun q h => by show gB G ≤ q; rw [hgB]; exact h
  have hbA : ¬ lo G bq := by show ¬ gB G ≤ bq; rw [hgB]; omega
  refine lv_aload_n hx hb dL_law_1047 rfl (lv_at hl 1 rfl) ?_
  refine lv_aload_n hx hb dL_law_1048 rfl (lv_at hl 0 rfl) ?_
  refine lv_iload hx hb dL_law_1049 (lv_at hl 4 rfl) ?_
  refine lv_iconst (v := nI (1)) hx hb dL_law_1051 (by decide) ?_
  refine gAdd (z := nI (i + 1)) hx hb dL_law_1052 (nI_add _ _) ?_
  refine gScr (i := i + 1) (v := p) hx hb hX hbl hbA hS (by omega) hL9 ha1 dL_law_1053 ?_
  refine lv_aload_n hx hb dL_law_1054 rfl (lv_at hl 0 rfl) ?_
  refine lv_iload hx hb dL_law_1055 (lv_at hl 4 rfl) ?_
  refine lv_iconst (v := nI (2)) hx hb dL_law_1057 (by decide) ?_
  refine gAdd (z := nI (i + 2)) hx hb dL_law_1058 (nI_add _ _) ?_
  refine gScr (i := i + 2) (v := x0) hx hb hX hbl hbA hS (by omega) hL9 ha2 dL_law_1059 ?_
  refine lv_aload_n hx hb dL_law_1060 rfl (lv_at hl 3 rfl) ?_
  refine kPreI (vx_runSW (As := [.ref (a 0), .int (p), .int (x0), .ref oa]) (rest := []) ⟨hx, hb, hml, hown, hts⟩ (c_L_kindWith_1 a v mo ki pr df co bi g9 lr bf tn ln nx ct hv v0 k0 v1 k1 oa of p x0 (hbad) hfl (PP_l hP) ((pre_D hD).weaken (fun _ _ _ h => hLo _ h))) (vx_cwSW 4 hts gL_law_L_kindWith rfl rfl rfl (by decide +kernel) ⟨(Nat.le_of_ble_eq_true rfl), (Nat.le_of_ble_eq_true rfl)⟩) (preSX hCX hS hLo) rfl rfl hl.1 rfl (lv_room (Nat.le_of_ble_eq_true rfl)) dL_law_1061 ⟨by show c0 + _ ≤ 601024; omega, by show s0 + _ ≤ 7293034; omega⟩) hP hD hS hA (fun _ => lw_fst) (fun r_3 u_1 H locs q_2 hP hD hS => ?_)
  have hP : PP G (lwW G a v mo ki pr df co bi g9 lr bf tn ln nx ct hv v0 k0 v1 k1 oa of mh m1 m2 m3 m4 m5 ss hi sl tx ne th kn ke le sp wr si on tw dn) H := hP
  have hD : va_D (lo G) (lwW G a v mo ki pr df co bi g9 lr bf tn ln nx ct hv v0 k0 v1 k1 oa of mh m1 m2 m3 m4 m5 ss hi sl tx ne th kn ke le sp wr si on tw dn) := hD
  refine topE (v' := nI (1)) (q_2) ?_
  refine lv_istore (lv' := [(5, .int (nI (1))), (0, .ref bq), (1, .ref (a 0)), (2, .ref mh), (3, .ref oa), (4, .int (nI (i)))]) hx hb dL_law_1064 hl (by decide) rfl (fun ls hl => ?_)
  refine lv_aload_n hx hb dL_law_1066 rfl (lv_at hl 3 rfl) ?_
  refine lv_aload_n hx hb dL_law_1067 rfl (lv_at hl 1 rfl) ?_
  refine lv_iload hx hb dL_law_1068 (lv_at hl 5 rfl) ?_
  refine lv_iconst (v := nI (1)) hx hb dL_law_1070 (by decide) ?_
  refine gAdd (z := nI (i + 1)) hx hb dL_law_1071 (nI_add _ _) ?_
  refine gScr (i := i + 1) (v := p) hx hb hX hbl hbA hS (by omega) hL9 ha1 dL_law_1072 ?_
  refine lv_aload_n hx hb dL_law_1073 rfl (lv_at hl 1 rfl) ?_
  refine lv_iload hx hb dL_law_1074 (lv_at hl 5 rfl) ?_
  refine lv_iconst (v := nI (2)) hx hb dL_law_1076 (by decide) ?_
  refine gAdd (z := nI (i + 2)) hx hb dL_law_1077 (nI_add _ _) ?_
  refine gScr (i := i + 2) (v := x0) hx hb hX hbl hbA hS (by omega) hL9 ha2 dL_law_1078 ?_
  refine kSufI (va_runV (As := [.int (p), .int (x0)]) (rest := []) ⟨hx, hb, hml, hown, hts⟩ (c_X9_kindWith_1 mh m1 m2 m3 m4 m5 ss hi sl tx ne th kn ke le sp wr si on tw dn p x0 (hbad) (PP_r hP) ((pre_D (va_D_swap hD)).weaken (fun _ _ _ h => hLo _ h))) (cwV 2 hts gL_law_X9_kindWith rfl rfl rfl (by decide +kernel) ⟨(Nat.le_of_ble_eq_true rfl), (Nat.le_of_ble_eq_true rfl)⟩) (preV hC hS hLo (PP_r hP) (ci := 8) (q0 := 0) rfl rfl) rfl rfl hl.1 rfl (lv_room (Nat.le_of_ble_eq_true rfl)) dL_law_1079 ⟨by show c0 + _ ≤ 601024; omega, by show s0 + _ ≤ 7293034; omega⟩) hP hD hS hA (fun _ => rfl) (fun r_6 u_4 H locs q_5 hP hD hS => ?_)
  have hP : PP G (lwW G a v mo ki pr df co bi g9 lr bf tn ln nx ct hv v0 k0 v1 k1 oa of mh m1 m2 m3 m4 m5 ss hi sl tx ne (nI 1) kn ke le sp wr si on tw dn) H := hP
  have hD : va_D (lo G) (lwW G a v mo ki pr df co bi g9 lr bf tn ln nx ct hv v0 k0 v1 k1 oa of mh m1 m2 m3 m4 m5 ss hi sl tx ne (nI 1) kn ke le sp wr si on tw dn) := hD
  refine topE (v' := nI (0)) (q_5) ?_
  refine lv_istore (lv' := [(6, .int (nI (0))), (5, .int (nI (1))), (0, .ref bq), (1, .ref (a 0)), (2, .ref mh), (3, .ref oa), (4, .int (nI (i)))]) hx hb dL_law_1082 hl (by decide) rfl (fun ls hl => ?_)
  refine lv_aload_n hx hb dL_law_1084 rfl (lv_at hl 4 rfl) ?_
  refine kPi (va_runV (As := []) (rest := []) ⟨hx, hb, hml, hown, hts⟩ (c_X9_thrown mh m1 m2 m3 m4 m5 ss hi sl tx ne (nI (1)) kn ke le sp wr si on tw dn (PP_r hP)) (cwV 0 hts gL_law_X9_thrown rfl rfl rfl (by decide +kernel) ⟨(Nat.le_of_ble_eq_true rfl), (Nat.le_of_ble_eq_true rfl)⟩) (preV hC hS hLo (PP_r hP) (ci := 8) (q0 := 0) rfl rfl) rfl rfl hl.1 rfl (lv_room (Nat.le_of_ble_eq_true rfl)) dL_law_1085 ⟨by show c0 + _ ≤ 601024; omega, by show s0 + _ ≤ 7293034; omega⟩) hS (fun locs hS => ?_)
  refine lv_iload hx hb dL_law_1088 (lv_at hl 1 rfl) ?_
  refine lv_icmp_eq (tgt := 1095) hx hb dL_law_1090 (by decide) (fun c_7 => ?_) (fun c_7 => ?_)
  · have f_8 := c_7
    refine lv_iload hx hb dL_law_1095 (lv_at hl 1 rfl) ?_
    refine lv_if_ne (tgt := 1112) hx hb dL_law_1097 (by decide) (fun c_9 => ?_) (fun c_9 => ?_)
    · have f_10 : ¬ (1 : Int) = (0 : Int) := fun z => c_9 ((c_eq (nI_toInt (n := 1) (by omega)) rfl).mpr z)
      refine lv_goto (tgt := 1768) hx hb dL_law_1112 (by decide) ?_
      exact hk H locs ls hP hD hS (lv_sub hl [2, 3, 4, 5, 6] rfl)
    · have f_11 : (1 : Int) = (0 : Int) := (c_eq (nI_toInt (n := 1) (by omega)) rfl).mp c_9
      exfalso; omega
  · have f_12 := c_7
    exact absurd rfl f_12

set_option maxHeartbeats 4000000 in
set_option maxRecDepth 100000 in
theorem lw_16_x2 {pg : Program} {l : Launch} {ev : Env} {s : State} {m : MethodId} {below : List Frame} {meth : Method} {c : Code} {Q : State → Prop} {G : GT} {bq L : Nat} {xs : Nat → Int32} (hLK : LK pg l s m meth c bq L xs G) (c0 s0 : Nat) (hroom : c0 + 1 ≤ 601024 ∧ s0 + 6 ≤ 7293034) (a : Nat → Nat) (v : SVT) (mo ki : Nat → Nat) (pr df : Nat → Int) (co : Int32) (bi : Nat) (g9 : Nat → Int32) (lr : Nat) (bf : Nat → Int) (tn : Nat → Nat) (ln nx ct : Nat) (hv : Nat → SVT) (v0 : SVT) (k0 : Nat) (v1 : SVT) (k1 : Nat) (oa : Nat) (of : Nat → Int64) (mh m1 m2 m3 m4 m5 : Nat) (ss hi sl : Nat → Int) (tx : Nat → Nat) (ne : Nat → Int) (th : Int32) (kn ke le : Nat) (sp wr si on tw dn : Int32) (i : Nat) (p : Nat) (x0 : Int32) (hi5 : i + 5 ≤ L) (ha1 : xs (i + 1) = nI (p)) (ha2 : xs (i + 2) = x0) (hp : p < 4) (hbad : x0.toInt < 1 ∨ 8 < x0.toInt) {H : Heap} {locs : List Loc} {ls : Array Slot} (hP : PP G (lwW G a v mo ki pr df co bi g9 lr bf tn ln nx ct hv v0 k0 v1 k1 oa of mh m1 m2 m3 m4 m5 ss hi sl tx ne th kn ke le sp wr si on tw dn) H) (hD : va_D (lo G) (lwW G a v mo ki pr df co bi g9 lr bf tn ln nx ct hv v0 k0 v1 k1 oa of mh m1 m2 m3 m4 m5 ss hi sl tx ne th kn ke le sp wr si on tw dn)) (hS : va_S (lo G) s.heap H locs) (hl : lv_has ls 7 [(0, .ref bq), (1, .ref (a 0)), (2, .ref mh), (3, .ref oa), (4, .int (nI (i)))])
    (hk : ∀ (H : Heap) (locs : List Loc) (ls : Array Slot), PP G (lwW G a v mo ki pr df co bi g9 lr bf tn ln nx ct hv v0 k0 v1 k1 oa of mh m1 m2 m3 m4 m5 ss hi sl tx ne (nI 2) kn ke le sp wr si on tw dn) H → va_D (lo G) (lwW G a v mo ki pr df co bi g9 lr bf tn ln nx ct hv v0 k0 v1 k1 oa of mh m1 m2 m3 m4 m5 ss hi sl tx ne (nI 2) kn ke le sp wr si on tw dn) → va_S (lo G) s.heap H locs → lv_has ls 7 [(0, .ref bq), (1, .ref (a 0)), (2, .ref mh), (3, .ref oa), (4, .int (nI (i)))] → W pg l ev room_1 s m #[Value.ref bq] below meth c H locs (c0 + 1) (s0 + 6) Q (F0 m 1768 ls [])) :
    W pg l ev room_1 s m #[Value.ref bq] below meth c H locs c0 s0 Q (F0 m 1047 ls []) := by
  obtain ⟨hx, hb, hml, hown, hts, hX, hbl, hCX, hgB, hfl, hL9⟩ := hLK
  have hC := hCX.1
  have hLo : ∀ q, lo G q → lo G q := fun _ h => h
  have hA : ∀ q, s.heap.size ≤ q → lo G q := fun q h => by show gB G ≤ q; rw [hgB]; exact h
  have hbA : ¬ lo G bq := by show ¬ gB G ≤ bq; rw [hgB]; omega
  refine lv_aload_n hx hb dL_law_1047 rfl (lv_at hl 1 rfl) ?_
  refine lv_aload_n hx hb dL_law_1048 rfl (lv_at hl 0 rfl) ?_
  refine lv_iload hx hb dL_law_1049 (lv_at hl 4 rfl) ?_
  refine lv_iconst (v := nI (1)) hx hb dL_law_1051 (by decide) ?_
  refine gAdd (z := nI (i + 1)) hx hb dL_law_1052 (nI_add _ _) ?_
  refine gScr (i := i + 1) (v := nI (p)) hx hb hX hbl hbA hS (by omega) hL9 ha1 dL_law_1053 ?_
  refine lv_aload_n hx hb dL_law_1054 rfl (lv_at hl 0 rfl) ?_
  refine lv_iload hx hb dL_law_1055 (lv_at hl 4 rfl) ?_
  refine lv_iconst (v := nI (2)) hx hb dL_law_1057 (by decide) ?_
  refine gAdd (z := nI (i + 2)) hx hb dL_law_1058 (nI_add _ _) ?_
  refine gScr (i := i + 2) (v := x0) hx hb hX hbl hbA hS (by omega) hL9 ha2 dL_law_1059 ?_
  refine lv_aload_n hx hb dL_law_1060 rfl (lv_at hl 3 rfl) ?_
  refine kPreI (vx_runSW (As := [.ref (a 0), .int (nI (p)), .int (x0), .ref oa]) (rest := []) ⟨hx, hb, hml, hown, hts⟩ (c_L_kindWith_2 a v mo ki pr df co bi g9 lr bf tn ln nx ct hv v0 k0 v1 k1 oa of p x0 (hp) (hbad) hfl (PP_l hP) ((pre_D hD).weaken (fun _ _ _ h => hLo _ h))) (vx_cwSW 4 hts gL_law_L_kindWith rfl rfl rfl (by decide +kernel) ⟨(Nat.le_of_ble_eq_true rfl), (Nat.le_of_ble_eq_true rfl)⟩) (preSX hCX hS hLo) rfl rfl hl.1 rfl (lv_room (Nat.le_of_ble_eq_true rfl)) dL_law_1061 ⟨by show c0 + _ ≤ 601024; omega, by show s0 + _ ≤ 7293034; omega⟩) hP hD hS hA (fun _ => lw_fst) (fun r_3 u_1 H locs q_2 hP hD hS => ?_)
  have hP : PP G (lwW G a v mo ki pr df co bi g9 lr bf tn ln nx ct hv v0 k0 v1 k1 oa of mh m1 m2 m3 m4 m5 ss hi sl tx ne th kn ke le sp wr si on tw dn) H := hP
  have hD : va_D (lo G) (lwW G a v mo ki pr df co bi g9 lr bf tn ln nx ct hv v0 k0 v1 k1 oa of mh m1 m2 m3 m4 m5 ss hi sl tx ne th kn ke le sp wr si on tw dn) := hD
  refine topE (v' := nI (2)) (q_2) ?_
  refine lv_istore (lv' := [(5, .int (nI (2))), (0, .ref bq), (1, .ref (a 0)), (2, .ref mh), (3, .ref oa), (4, .int (nI (i)))]) hx hb dL_law_1064 hl (by decide) rfl (fun ls hl => ?_)
  refine lv_aload_n hx hb dL_law_1066 rfl (lv_at hl 3 rfl) ?_
  refine lv_aload_n hx hb dL_law_1067 rfl (lv_at hl 1 rfl) ?_
  refine lv_iload hx hb dL_law_1068 (lv_at hl 5 rfl) ?_
  refine lv_iconst (v := nI (1)) hx hb dL_law_1070 (by decide) ?_
  refine gAdd (z := nI (i + 1)) hx hb dL_law_1071 (nI_add _ _) ?_
  refine gScr (i := i + 1) (v := nI (p)) hx hb hX hbl hbA hS (by omega) hL9 ha1 dL_law_1072 ?_
  refine lv_aload_n hx hb dL_law_1073 rfl (lv_at hl 1 rfl) ?_
  refine lv_iload hx hb dL_law_1074 (lv_at hl 5 rfl) ?_
  refine lv_iconst (v := nI (2)) hx hb dL_law_1076 (by decide) ?_
  refine gAdd (z := nI (i + 2)) hx hb dL_law_1077 (nI_add _ _) ?_
  refine gScr (i := i + 2) (v := x0) hx hb hX hbl hbA hS (by omega) hL9 ha2 dL_law_1078 ?_
  refine kSufI (va_runV (As := [.int (nI (p)), .int (x0)]) (rest := []) ⟨hx, hb, hml, hown, hts⟩ (c_X9_kindWith_2 mh m1 m2 m3 m4 m5 ss hi sl tx ne th kn ke le sp wr si on tw dn p x0 (hp) (hbad) (PP_r hP) ((pre_D (va_D_swap hD)).weaken (fun _ _ _ h => hLo _ h))) (cwV 2 hts gL_law_X9_kindWith rfl rfl rfl (by decide +kernel) ⟨(Nat.le_of_ble_eq_true rfl), (Nat.le_of_ble_eq_true rfl)⟩) (preV hC hS hLo (PP_r hP) (ci := 8) (q0 := 0) rfl rfl) rfl rfl hl.1 rfl (lv_room (Nat.le_of_ble_eq_true rfl)) dL_law_1079 ⟨by show c0 + _ ≤ 601024; omega, by show s0 + _ ≤ 7293034; omega⟩) hP hD hS hA (fun _ => rfl) (fun r_6 u_4 H locs q_5 hP hD hS => ?_)
  have hP : PP G (lwW G a v mo ki pr df co bi g9 lr bf tn ln nx ct hv v0 k0 v1 k1 oa of mh m1 m2 m3 m4 m5 ss hi sl tx ne (nI 2) kn ke le sp wr si on tw dn) H := hP
  have hD : va_D (lo G) (lwW G a v mo ki pr df co bi g9 lr bf tn ln nx ct hv v0 k0 v1 k1 oa of mh m1 m2 m3 m4 m5 ss hi sl tx ne (nI 2) kn ke le sp wr si on tw dn) := hD
  refine topE (v' := nI (0)) (q_5) ?_
  refine lv_istore (lv' := [(6, .int (nI (0))), (5, .int (nI (2))), (0, .ref bq), (1, .ref (a 0)), (2, .ref mh), (3, .ref oa), (4, .int (nI (i)))]) hx hb dL_law_1082 hl (by decide) rfl (fun ls hl => ?_)
  refine lv_aload_n hx hb dL_law_1084 rfl (lv_at hl 4 rfl) ?_
  refine kPi (va_runV (As := []) (rest := []) ⟨hx, hb, hml, hown, hts⟩ (c_X9_thrown mh m1 m2 m3 m4 m5 ss hi sl tx ne (nI (2)) kn ke le sp wr si on tw dn (PP_r hP)) (cwV 0 hts gL_law_X9_thrown rfl rfl rfl (by decide +kernel) ⟨(Nat.le_of_ble_eq_true rfl), (Nat.le_of_ble_eq_true rfl)⟩) (preV hC hS hLo (PP_r hP) (ci := 8) (q0 := 0) rfl rfl) rfl rfl hl.1 rfl (lv_room (Nat.le_of_ble_eq_true rfl)) dL_law_1085 ⟨by show c0 + _ ≤ 601024; omega, by show s0 + _ ≤ 7293034; omega⟩) hS (fun locs hS => ?_)
  refine lv_iload hx hb dL_law_1088 (lv_at hl 1 rfl) ?_
  refine lv_icmp_eq (tgt := 1095) hx hb dL_law_1090 (by decide) (fun c_7 => ?_) (fun c_7 => ?_)
  · have f_8 := c_7
    refine lv_iload hx hb dL_law_1095 (lv_at hl 1 rfl) ?_
    refine lv_if_ne (tgt := 1112) hx hb dL_law_1097 (by decide) (fun c_9 => ?_) (fun c_9 => ?_)
    · have f_10 : ¬ (2 : Int) = (0 : Int) := fun z => c_9 ((c_eq (nI_toInt (n := 2) (by omega)) rfl).mpr z)
      refine lv_goto (tgt := 1768) hx hb dL_law_1112 (by decide) ?_
      exact hk H locs ls hP hD hS (lv_sub hl [2, 3, 4, 5, 6] rfl)
    · have f_11 : (2 : Int) = (0 : Int) := (c_eq (nI_toInt (n := 2) (by omega)) rfl).mp c_9
      exfalso; omega
  · have f_12 := c_7
    exact absurd rfl f_12

set_option maxHeartbeats 4000000 in
set_option maxRecDepth 100000 in
theorem lw_17_ok {pg : Program} {l : Launch} {ev : Env} {s : State} {m : MethodId} {below : List Frame} {meth : Method} {c : Code} {Q : State → Prop} {G : GT} {bq L : Nat} {xs : Nat → Int32} (hLK : LK pg l s m meth c bq L xs G) (c0 s0 : Nat) (hroom : c0 + 1 ≤ 601024 ∧ s0 + 6 ≤ 7293034) (a : Nat → Nat) (v : SVT) (mo ki : Nat → Nat) (pr df : Nat → Int) (co : Int32) (bi : Nat) (g9 : Nat → Int32) (lr : Nat) (bf : Nat → Int) (tn : Nat → Nat) (ln nx ct : Nat) (hv : Nat → SVT) (v0 : SVT) (k0 : Nat) (v1 : SVT) (k1 : Nat) (oa : Nat) (of : Nat → Int64) (mh m1 m2 m3 m4 m5 : Nat) (ss hi sl : Nat → Int) (tx : Nat → Nat) (ne : Nat → Int) (th : Int32) (kn ke le : Nat) (sp wr si on tw dn : Int32) (i : Nat) (b q : Nat) (hi5 : i + 5 ≤ L) (ha1 : xs (i + 1) = nI (b)) (ha2 : xs (i + 2) = nI (q)) (hd : R15 v.1) (ht : R15 v.2.1) (hdf : D15 df) (hmo : M25 mo) (hb4 : b < 4) (hq : 1 ≤ q ∧ q ≤ 8) (hMR : MR ss) (heq : nI (BTM (dS ss) (tS ss) b q) = nI (BTM v.1 v.2.1 b q)) {H : Heap} {locs : List Loc} {ls : Array Slot} (hP : PP G (lwW G a v mo ki pr df co bi g9 lr bf tn ln nx ct hv v0 k0 v1 k1 oa of mh m1 m2 m3 m4 m5 ss hi sl tx ne th kn ke le sp wr si on tw dn) H) (hD : va_D (lo G) (lwW G a v mo ki pr df co bi g9 lr bf tn ln nx ct hv v0 k0 v1 k1 oa of mh m1 m2 m3 m4 m5 ss hi sl tx ne th kn ke le sp wr si on tw dn)) (hS : va_S (lo G) s.heap H locs) (hl : lv_has ls 7 [(0, .ref bq), (1, .ref (a 0)), (2, .ref mh), (3, .ref oa), (4, .int (nI (i)))])
    (hk : ∀ (H : Heap) (locs : List Loc) (ls : Array Slot), PP G (lwW G a v (va_up mo b (BEST v.1 v.2.1 b)) (va_up ki b (kdW ((va_up mo b (BEST v.1 v.2.1 b)) b) (LB (fdS v.1 v.2.1 b (BEST v.1 v.2.1 b) df 16) b q 16))) (fpS v.2.1 b (BEST v.1 v.2.1 b) pr 16) (fdS v.1 v.2.1 b (BEST v.1 v.2.1 b) df 16) co bi g9 lr bf tn ln nx ct hv v0 k0 v1 k1 oa (vp_updL of 0 ((nI (BTM v.1 v.2.1 b q)).toInt64)) mh m1 m2 m3 m4 m5 ss hi sl tx ne (nI 0) kn ke le sp wr si on tw dn) H → va_D (lo G) (lwW G a v (va_up mo b (BEST v.1 v.2.1 b)) (va_up ki b (kdW ((va_up mo b (BEST v.1 v.2.1 b)) b) (LB (fdS v.1 v.2.1 b (BEST v.1 v.2.1 b) df 16) b q 16))) (fpS v.2.1 b (BEST v.1 v.2.1 b) pr 16) (fdS v.1 v.2.1 b (BEST v.1 v.2.1 b) df 16) co bi g9 lr bf tn ln nx ct hv v0 k0 v1 k1 oa (vp_updL of 0 ((nI (BTM v.1 v.2.1 b q)).toInt64)) mh m1 m2 m3 m4 m5 ss hi sl tx ne (nI 0) kn ke le sp wr si on tw dn) → va_S (lo G) s.heap H locs → lv_has ls 7 [(0, .ref bq), (1, .ref (a 0)), (2, .ref mh), (3, .ref oa), (4, .int (nI (i)))] → W pg l ev room_1 s m #[Value.ref bq] below meth c H locs (c0 + 0) (s0 + 0) Q (F0 m 1768 ls [])) :
    W pg l ev room_1 s m #[Value.ref bq] below meth c H locs c0 s0 Q (F0 m 1115 ls []) := by
  obtain ⟨hx, hb, hml, hown, hts, hX, hbl, hCX, hgB, hfl, hL9⟩ := hLK
  have hC := hCX.1
  have hLo : ∀ q, lo G q → lo G q := fun _ h => h
  have hA : ∀ q, s.heap.size ≤ q → lo G q := fun q h => by show gB G ≤ q; rw [hgB]; exact h
  have hbA : ¬ lo G bq := by show ¬ gB G ≤ bq; rw [hgB]; omega
  refine lv_aload_n hx hb dL_law_1115 rfl (lv_at hl 1 rfl) ?_
  refine lv_aload_n hx hb dL_law_1116 rfl (lv_at hl 0 rfl) ?_
  refine lv_iload hx hb dL_law_1117 (lv_at hl 4 rfl) ?_
  refine lv_iconst (v := nI (1)) hx hb dL_law_1119 (by decide) ?_
  refine gAdd (z := nI (i + 1)) hx hb dL_law_1120 (nI_add _ _) ?_
  refine gScr (i := i + 1) (v := nI (b)) hx hb hX hbl hbA hS (by omega) hL9 ha1 dL_law_1121 ?_
  refine lv_aload_n hx hb dL_law_1122 rfl (lv_at hl 0 rfl) ?_
  refine lv_iload hx hb dL_law_1123 (lv_at hl 4 rfl) ?_
  refine lv_iconst (v := nI (2)) hx hb dL_law_1125 (by decide) ?_
  refine gAdd (z := nI (i + 2)) hx hb dL_law_1126 (nI_add _ _) ?_
  refine gScr (i := i + 2) (v := nI (q)) hx hb hX hbl hbA hS (by omega) hL9 ha2 dL_law_1127 ?_
  refine lv_aload_n hx hb dL_law_1128 rfl (lv_at hl 3 rfl) ?_
  refine kPreI (vx_runSW (As := [.ref (a 0), .int (nI (b)), .int (nI (q)), .ref oa]) (rest := []) ⟨hx, hb, hml, hown, hts⟩ (c_L_bitsWith a v mo ki pr df co bi g9 lr bf tn ln nx ct hv v0 k0 v1 k1 oa of b q (hd) (ht) (hdf) (hmo) (hb4) (hq) (PP_l hP) ((pre_D hD).weaken (fun _ _ _ h => hLo _ h))) (vx_cwSW 4 hts gL_law_L_bitsWith rfl rfl rfl (by decide +kernel) ⟨(Nat.le_of_ble_eq_true rfl), (Nat.le_of_ble_eq_true rfl)⟩) (preS hC hS hLo) rfl rfl hl.1 rfl (lv_room (Nat.le_of_ble_eq_true rfl)) dL_law_1129 ⟨by show c0 + _ ≤ 601024; omega, by show s0 + _ ≤ 7293034; omega⟩) hP hD hS hA (fun _ => lw_fst) (fun r_3 u_1 H locs q_2 hP hD hS => ?_)
  have hP : PP G (lwW G a v (va_up mo b (BEST v.1 v.2.1 b)) (va_up ki b (kdW ((va_up mo b (BEST v.1 v.2.1 b)) b) (LB (fdS v.1 v.2.1 b (BEST v.1 v.2.1 b) df 16) b q 16))) (fpS v.2.1 b (BEST v.1 v.2.1 b) pr 16) (fdS v.1 v.2.1 b (BEST v.1 v.2.1 b) df 16) co bi g9 lr bf tn ln nx ct hv v0 k0 v1 k1 oa (vp_updL of 0 ((nI (BTM v.1 v.2.1 b q)).toInt64)) mh m1 m2 m3 m4 m5 ss hi sl tx ne th kn ke le sp wr si on tw dn) H := hP
  have hD : va_D (lo G) (lwW G a v (va_up mo b (BEST v.1 v.2.1 b)) (va_up ki b (kdW ((va_up mo b (BEST v.1 v.2.1 b)) b) (LB (fdS v.1 v.2.1 b (BEST v.1 v.2.1 b) df 16) b q 16))) (fpS v.2.1 b (BEST v.1 v.2.1 b) pr 16) (fdS v.1 v.2.1 b (BEST v.1 v.2.1 b) df 16) co bi g9 lr bf tn ln nx ct hv v0 k0 v1 k1 oa (vp_updL of 0 ((nI (BTM v.1 v.2.1 b q)).toInt64)) mh m1 m2 m3 m4 m5 ss hi sl tx ne th kn ke le sp wr si on tw dn) := hD
  refine topE (v' := nI (0)) (q_2) ?_
  refine lv_istore (lv' := [(5, .int (nI (0))), (0, .ref bq), (1, .ref (a 0)), (2, .ref mh), (3, .ref oa), (4, .int (nI (i)))]) hx hb dL_law_1132 hl (by decide) rfl (fun ls hl => ?_)
  refine lv_aload_n hx hb dL_law_1134 rfl (lv_at hl 3 rfl) ?_
  refine lv_aload_n hx hb dL_law_1135 rfl (lv_at hl 1 rfl) ?_
  refine lv_iload hx hb dL_law_1136 (lv_at hl 5 rfl) ?_
  refine lv_iconst (v := nI (1)) hx hb dL_law_1138 (by decide) ?_
  refine gAdd (z := nI (i + 1)) hx hb dL_law_1139 (nI_add _ _) ?_
  refine gScr (i := i + 1) (v := nI (b)) hx hb hX hbl hbA hS (by omega) hL9 ha1 dL_law_1140 ?_
  refine lv_aload_n hx hb dL_law_1141 rfl (lv_at hl 1 rfl) ?_
  refine lv_iload hx hb dL_law_1142 (lv_at hl 5 rfl) ?_
  refine lv_iconst (v := nI (2)) hx hb dL_law_1144 (by decide) ?_
  refine gAdd (z := nI (i + 2)) hx hb dL_law_1145 (nI_add _ _) ?_
  refine gScr (i := i + 2) (v := nI (q)) hx hb hX hbl hbA hS (by omega) hL9 ha2 dL_law_1146 ?_
  refine kSufI (va_runV (As := [.int (nI (b)), .int (nI (q))]) (rest := []) ⟨hx, hb, hml, hown, hts⟩ (c_X9_bitsWith mh m1 m2 m3 m4 m5 ss hi sl tx ne th kn ke le sp wr si on tw dn b q (hMR) (hb4) (hq) (PP_r hP) ((pre_D (va_D_swap hD)).weaken (fun _ _ _ h => hLo _ h))) (cwV 2 hts gL_law_X9_bitsWith rfl rfl rfl (by decide +kernel) ⟨(Nat.le_of_ble_eq_true rfl), (Nat.le_of_ble_eq_true rfl)⟩) (preV hC hS hLo (PP_r hP) (ci := 8) (q0 := 0) rfl rfl) rfl rfl hl.1 rfl (lv_room (Nat.le_of_ble_eq_true rfl)) dL_law_1147 ⟨by show c0 + _ ≤ 601024; omega, by show s0 + _ ≤ 7293034; omega⟩) hP hD hS hA (fun _ => rfl) (fun r_6 u_4 H locs q_5 hP hD hS => ?_)
  have hP : PP G (lwW G a v (va_up mo b (BEST v.1 v.2.1 b)) (va_up ki b (kdW ((va_up mo b (BEST v.1 v.2.1 b)) b) (LB (fdS v.1 v.2.1 b (BEST v.1 v.2.1 b) df 16) b q 16))) (fpS v.2.1 b (BEST v.1 v.2.1 b) pr 16) (fdS v.1 v.2.1 b (BEST v.1 v.2.1 b) df 16) co bi g9 lr bf tn ln nx ct hv v0 k0 v1 k1 oa (vp_updL of 0 ((nI (BTM v.1 v.2.1 b q)).toInt64)) mh m1 m2 m3 m4 m5 ss hi sl tx ne (nI 0) kn ke le sp wr si on tw dn) H := hP
  have hD : va_D (lo G) (lwW G a v (va_up mo b (BEST v.1 v.2.1 b)) (va_up ki b (kdW ((va_up mo b (BEST v.1 v.2.1 b)) b) (LB (fdS v.1 v.2.1 b (BEST v.1 v.2.1 b) df 16) b q 16))) (fpS v.2.1 b (BEST v.1 v.2.1 b) pr 16) (fdS v.1 v.2.1 b (BEST v.1 v.2.1 b) df 16) co bi g9 lr bf tn ln nx ct hv v0 k0 v1 k1 oa (vp_updL of 0 ((nI (BTM v.1 v.2.1 b q)).toInt64)) mh m1 m2 m3 m4 m5 ss hi sl tx ne (nI 0) kn ke le sp wr si on tw dn) := hD
  refine topE (v' := nI (BTM v.1 v.2.1 b q)) (q_5.trans (heq)) ?_
  refine lv_istore (lv' := [(6, .int (nI (BTM v.1 v.2.1 b q))), (5, .int (nI (0))), (0, .ref bq), (1, .ref (a 0)), (2, .ref mh), (3, .ref oa), (4, .int (nI (i)))]) hx hb dL_law_1150 hl (by decide) rfl (fun ls hl => ?_)
  refine lv_aload_n hx hb dL_law_1152 rfl (lv_at hl 4 rfl) ?_
  refine kPi (va_runV (As := []) (rest := []) ⟨hx, hb, hml, hown, hts⟩ (c_X9_thrown mh m1 m2 m3 m4 m5 ss hi sl tx ne (nI (0)) kn ke le sp wr si on tw dn (PP_r hP)) (cwV 0 hts gL_law_X9_thrown rfl rfl rfl (by decide +kernel) ⟨(Nat.le_of_ble_eq_true rfl), (Nat.le_of_ble_eq_true rfl)⟩) (preV hC hS hLo (PP_r hP) (ci := 8) (q0 := 0) rfl rfl) rfl rfl hl.1 rfl (lv_room (Nat.le_of_ble_eq_true rfl)) dL_law_1153 ⟨by show c0 + _ ≤ 601024; omega, by show s0 + _ ≤ 7293034; omega⟩) hS (fun locs hS => ?_)
  refine lv_iload hx hb dL_law_1156 (lv_at hl 1 rfl) ?_
  refine lv_icmp_eq (tgt := 1163) hx hb dL_law_1158 (by decide) (fun c_7 => ?_) (fun c_7 => ?_)
  · have f_8 := c_7
    refine lv_iload hx hb dL_law_1163 (lv_at hl 1 rfl) ?_
    refine lv_if_ne (tgt := 1180) hx hb dL_law_1165 (by decide) (fun c_9 => ?_) (fun c_9 => ?_)
    · have f_10 : ¬ (0 : Int) = (0 : Int) := fun z => c_9 ((c_eq (nI_toInt (n := 0) (by omega)) rfl).mpr z)
      exfalso; omega
    · have f_11 : (0 : Int) = (0 : Int) := (c_eq (nI_toInt (n := 0) (by omega)) rfl).mp c_9
      refine lv_aload_n hx hb dL_law_1168 rfl (lv_at hl 5 rfl) ?_
      refine lv_iconst (v := nI (0)) hx hb dL_law_1169 (by decide) ?_
      refine gLald (j := 0) hx hb hC.K (PP_r (PP_l hP)) 0 4 rfl rfl rfl (by decide) (by decide) dL_law_1170 ?_
      refine W.eq (g2 := F0 m 1171 ls [.long ((nI (BTM v.1 v.2.1 b q)).toInt64)]) rfl ?_
      refine lv_iload hx hb dL_law_1171 (lv_at hl 0 rfl) ?_
      refine lv_i2l (v := (nI (BTM v.1 v.2.1 b q)).toInt64) hx hb dL_law_1173 (rfl) ?_
      refine W.lcmp hx hb dL_law_1174 ?_
      refine topE (v' := nI (0)) (lg_self _) ?_
      refine lv_if_eq (tgt := 1180) hx hb dL_law_1175 (by decide) (fun c_12 => ?_) (fun c_12 => ?_)
      · have f_13 : (0 : Int) = (0 : Int) := (c_eq (nI_toInt (n := 0) (by omega)) rfl).mp c_12
        refine lv_goto (tgt := 1768) hx hb dL_law_1180 (by decide) ?_
        exact hk H locs ls hP hD hS (lv_sub hl [2, 3, 4, 5, 6] rfl)
      · have f_14 : ¬ (0 : Int) = (0 : Int) := fun z => c_12 ((c_eq (nI_toInt (n := 0) (by omega)) rfl).mpr z)
        exfalso; omega
  · have f_15 := c_7
    exact absurd rfl f_15

set_option maxHeartbeats 4000000 in
set_option maxRecDepth 100000 in
theorem lw_17_x1 {pg : Program} {l : Launch} {ev : Env} {s : State} {m : MethodId} {below : List Frame} {meth : Method} {c : Code} {Q : State → Prop} {G : GT} {bq L : Nat} {xs : Nat → Int32} (hLK : LK pg l s m meth c bq L xs G) (c0 s0 : Nat) (hroom : c0 + 1 ≤ 601024 ∧ s0 + 6 ≤ 7293034) (a : Nat → Nat) (v : SVT) (mo ki : Nat → Nat) (pr df : Nat → Int) (co : Int32) (bi : Nat) (g9 : Nat → Int32) (lr : Nat) (bf : Nat → Int) (tn : Nat → Nat) (ln nx ct : Nat) (hv : Nat → SVT) (v0 : SVT) (k0 : Nat) (v1 : SVT) (k1 : Nat) (oa : Nat) (of : Nat → Int64) (mh m1 m2 m3 m4 m5 : Nat) (ss hi sl : Nat → Int) (tx : Nat → Nat) (ne : Nat → Int) (th : Int32) (kn ke le : Nat) (sp wr si on tw dn : Int32) (i : Nat) (p x0 : Int32) (hi5 : i + 5 ≤ L) (ha1 : xs (i + 1) = p) (ha2 : xs (i + 2) = x0) (hbad : p.toInt < 0 ∨ 4 ≤ p.toInt) {H : Heap} {locs : List Loc} {ls : Array Slot} (hP : PP G (lwW G a v mo ki pr df co bi g9 lr bf tn ln nx ct hv v0 k0 v1 k1 oa of mh m1 m2 m3 m4 m5 ss hi sl tx ne th kn ke le sp wr si on tw dn) H) (hD : va_D (lo G) (lwW G a v mo ki pr df co bi g9 lr bf tn ln nx ct hv v0 k0 v1 k1 oa of mh m1 m2 m3 m4 m5 ss hi sl tx ne th kn ke le sp wr si on tw dn)) (hS : va_S (lo G) s.heap H locs) (hl : lv_has ls 7 [(0, .ref bq), (1, .ref (a 0)), (2, .ref mh), (3, .ref oa), (4, .int (nI (i)))])
    (hk : ∀ (H : Heap) (locs : List Loc) (ls : Array Slot), PP G (lwW G a v mo ki pr df co bi g9 lr bf tn ln nx ct hv v0 k0 v1 k1 oa of mh m1 m2 m3 m4 m5 ss hi sl tx ne (nI 1) kn ke le sp wr si on tw dn) H → va_D (lo G) (lwW G a v mo ki pr df co bi g9 lr bf tn ln nx ct hv v0 k0 v1 k1 oa of mh m1 m2 m3 m4 m5 ss hi sl tx ne (nI 1) kn ke le sp wr si on tw dn) → va_S (lo G) s.heap H locs → lv_has ls 7 [(0, .ref bq), (1, .ref (a 0)), (2, .ref mh), (3, .ref oa), (4, .int (nI (i)))] → W pg l ev room_1 s m #[Value.ref bq] below meth c H locs (c0 + 1) (s0 + 6) Q (F0 m 1768 ls [])) :
    W pg l ev room_1 s m #[Value.ref bq] below meth c H locs c0 s0 Q (F0 m 1115 ls []) := by
  obtain ⟨hx, hb, hml, hown, hts, hX, hbl, hCX, hgB, hfl, hL9⟩ := hLK
  have hC := hCX.1
  have hLo : ∀ q, lo G q → lo G q := fun _ h => h
  have hA : ∀ q, s.heap.size ≤ q → lo G q := fun q h => by show gB G ≤ q; rw [hgB]; exact h
  have hbA : ¬ lo G bq := by show ¬ gB G ≤ bq; rw [hgB]; omega
  refine lv_aload_n hx hb dL_law_1115 rfl (lv_at hl 1 rfl) ?_
  refine lv_aload_n hx hb dL_law_1116 rfl (lv_at hl 0 rfl) ?_
  refine lv_iload hx hb dL_law_1117 (lv_at hl 4 rfl) ?_
  refine lv_iconst (v := nI (1)) hx hb dL_law_1119 (by decide) ?_
  refine gAdd (z := nI (i + 1)) hx hb dL_law_1120 (nI_add _ _) ?_
  refine gScr (i := i + 1) (v := p) hx hb hX hbl hbA hS (by omega) hL9 ha1 dL_law_1121 ?_
  refine lv_aload_n hx hb dL_law_1122 rfl (lv_at hl 0 rfl) ?_
  refine lv_iload hx hb dL_law_1123 (lv_at hl 4 rfl) ?_
  refine lv_iconst (v := nI (2)) hx hb dL_law_1125 (by decide) ?_
  refine gAdd (z := nI (i + 2)) hx hb dL_law_1126 (nI_add _ _) ?_
  refine gScr (i := i + 2) (v := x0) hx hb hX hbl hbA hS (by omega) hL9 ha2 dL_law_1127 ?_
  refine lv_aload_n hx hb dL_law_1128 rfl (lv_at hl 3 rfl) ?_
  refine kPreI (vx_runSW (As := [.ref (a 0), .int (p), .int (x0), .ref oa]) (rest := []) ⟨hx, hb, hml, hown, hts⟩ (c_L_bitsWith_1 a v mo ki pr df co bi g9 lr bf tn ln nx ct hv v0 k0 v1 k1 oa of p x0 (hbad) hfl (PP_l hP) ((pre_D hD).weaken (fun _ _ _ h => hLo _ h))) (vx_cwSW 4 hts gL_law_L_bitsWith rfl rfl rfl (by decide +kernel) ⟨(Nat.le_of_ble_eq_true rfl), (Nat.le_of_ble_eq_true rfl)⟩) (preSX hCX hS hLo) rfl rfl hl.1 rfl (lv_room (Nat.le_of_ble_eq_true rfl)) dL_law_1129 ⟨by show c0 + _ ≤ 601024; omega, by show s0 + _ ≤ 7293034; omega⟩) hP hD hS hA (fun _ => lw_fst) (fun r_3 u_1 H locs q_2 hP hD hS => ?_)
  have hP : PP G (lwW G a v mo ki pr df co bi g9 lr bf tn ln nx ct hv v0 k0 v1 k1 oa of mh m1 m2 m3 m4 m5 ss hi sl tx ne th kn ke le sp wr si on tw dn) H := hP
  have hD : va_D (lo G) (lwW G a v mo ki pr df co bi g9 lr bf tn ln nx ct hv v0 k0 v1 k1 oa of mh m1 m2 m3 m4 m5 ss hi sl tx ne th kn ke le sp wr si on tw dn) := hD
  refine topE (v' := nI (1)) (q_2) ?_
  refine lv_istore (lv' := [(5, .int (nI (1))), (0, .ref bq), (1, .ref (a 0)), (2, .ref mh), (3, .ref oa), (4, .int (nI (i)))]) hx hb dL_law_1132 hl (by decide) rfl (fun ls hl => ?_)
  refine lv_aload_n hx hb dL_law_1134 rfl (lv_at hl 3 rfl) ?_
  refine lv_aload_n hx hb dL_law_1135 rfl (lv_at hl 1 rfl) ?_
  refine lv_iload hx hb dL_law_1136 (lv_at hl 5 rfl) ?_
  refine lv_iconst (v := nI (1)) hx hb dL_law_1138 (by decide) ?_
  refine gAdd (z := nI (i + 1)) hx hb dL_law_1139 (nI_add _ _) ?_
  refine gScr (i := i + 1) (v := p) hx hb hX hbl hbA hS (by omega) hL9 ha1 dL_law_1140 ?_
  refine lv_aload_n hx hb dL_law_1141 rfl (lv_at hl 1 rfl) ?_
  refine lv_iload hx hb dL_law_1142 (lv_at hl 5 rfl) ?_
  refine lv_iconst (v := nI (2)) hx hb dL_law_1144 (by decide) ?_
  refine gAdd (z := nI (i + 2)) hx hb dL_law_1145 (nI_add _ _) ?_
  refine gScr (i := i + 2) (v := x0) hx hb hX hbl hbA hS (by omega) hL9 ha2 dL_law_1146 ?_
  refine kSufI (va_runV (As := [.int (p), .int (x0)]) (rest := []) ⟨hx, hb, hml, hown, hts⟩ (c_X9_bitsWith_1 mh m1 m2 m3 m4 m5 ss hi sl tx ne th kn ke le sp wr si on tw dn p x0 (hbad) (PP_r hP) ((pre_D (va_D_swap hD)).weaken (fun _ _ _ h => hLo _ h))) (cwV 2 hts gL_law_X9_bitsWith rfl rfl rfl (by decide +kernel) ⟨(Nat.le_of_ble_eq_true rfl), (Nat.le_of_ble_eq_true rfl)⟩) (preV hC hS hLo (PP_r hP) (ci := 8) (q0 := 0) rfl rfl) rfl rfl hl.1 rfl (lv_room (Nat.le_of_ble_eq_true rfl)) dL_law_1147 ⟨by show c0 + _ ≤ 601024; omega, by show s0 + _ ≤ 7293034; omega⟩) hP hD hS hA (fun _ => rfl) (fun r_6 u_4 H locs q_5 hP hD hS => ?_)
  have hP : PP G (lwW G a v mo ki pr df co bi g9 lr bf tn ln nx ct hv v0 k0 v1 k1 oa of mh m1 m2 m3 m4 m5 ss hi sl tx ne (nI 1) kn ke le sp wr si on tw dn) H := hP
  have hD : va_D (lo G) (lwW G a v mo ki pr df co bi g9 lr bf tn ln nx ct hv v0 k0 v1 k1 oa of mh m1 m2 m3 m4 m5 ss hi sl tx ne (nI 1) kn ke le sp wr si on tw dn) := hD
  refine topE (v' := nI (0)) (q_5) ?_
  refine lv_istore (lv' := [(6, .int (nI (0))), (5, .int (nI (1))), (0, .ref bq), (1, .ref (a 0)), (2, .ref mh), (3, .ref oa), (4, .int (nI (i)))]) hx hb dL_law_1150 hl (by decide) rfl (fun ls hl => ?_)
  refine lv_aload_n hx hb dL_law_1152 rfl (lv_at hl 4 rfl) ?_
  refine kPi (va_runV (As := []) (rest := []) ⟨hx, hb, hml, hown, hts⟩ (c_X9_thrown mh m1 m2 m3 m4 m5 ss hi sl tx ne (nI (1)) kn ke le sp wr si on tw dn (PP_r hP)) (cwV 0 hts gL_law_X9_thrown rfl rfl rfl (by decide +kernel) ⟨(Nat.le_of_ble_eq_true rfl), (Nat.le_of_ble_eq_true rfl)⟩) (preV hC hS hLo (PP_r hP) (ci := 8) (q0 := 0) rfl rfl) rfl rfl hl.1 rfl (lv_room (Nat.le_of_ble_eq_true rfl)) dL_law_1153 ⟨by show c0 + _ ≤ 601024; omega, by show s0 + _ ≤ 7293034; omega⟩) hS (fun locs hS => ?_)
  refine lv_iload hx hb dL_law_1156 (lv_at hl 1 rfl) ?_
  refine lv_icmp_eq (tgt := 1163) hx hb dL_law_1158 (by decide) (fun c_7 => ?_) (fun c_7 => ?_)
  · have f_8 := c_7
    refine lv_iload hx hb dL_law_1163 (lv_at hl 1 rfl) ?_
    refine lv_if_ne (tgt := 1180) hx hb dL_law_1165 (by decide) (fun c_9 => ?_) (fun c_9 => ?_)
    · have f_10 : ¬ (1 : Int) = (0 : Int) := fun z => c_9 ((c_eq (nI_toInt (n := 1) (by omega)) rfl).mpr z)
      refine lv_goto (tgt := 1768) hx hb dL_law_1180 (by decide) ?_
      exact hk H locs ls hP hD hS (lv_sub hl [2, 3, 4, 5, 6] rfl)
    · have f_11 : (1 : Int) = (0 : Int) := (c_eq (nI_toInt (n := 1) (by omega)) rfl).mp c_9
      exfalso; omega
  · have f_12 := c_7
    exact absurd rfl f_12

set_option maxHeartbeats 4000000 in
set_option maxRecDepth 100000 in
theorem lw_17_x2 {pg : Program} {l : Launch} {ev : Env} {s : State} {m : MethodId} {below : List Frame} {meth : Method} {c : Code} {Q : State → Prop} {G : GT} {bq L : Nat} {xs : Nat → Int32} (hLK : LK pg l s m meth c bq L xs G) (c0 s0 : Nat) (hroom : c0 + 1 ≤ 601024 ∧ s0 + 6 ≤ 7293034) (a : Nat → Nat) (v : SVT) (mo ki : Nat → Nat) (pr df : Nat → Int) (co : Int32) (bi : Nat) (g9 : Nat → Int32) (lr : Nat) (bf : Nat → Int) (tn : Nat → Nat) (ln nx ct : Nat) (hv : Nat → SVT) (v0 : SVT) (k0 : Nat) (v1 : SVT) (k1 : Nat) (oa : Nat) (of : Nat → Int64) (mh m1 m2 m3 m4 m5 : Nat) (ss hi sl : Nat → Int) (tx : Nat → Nat) (ne : Nat → Int) (th : Int32) (kn ke le : Nat) (sp wr si on tw dn : Int32) (i : Nat) (p : Nat) (x0 : Int32) (hi5 : i + 5 ≤ L) (ha1 : xs (i + 1) = nI (p)) (ha2 : xs (i + 2) = x0) (hp : p < 4) (hbad : x0.toInt < 1 ∨ 8 < x0.toInt) {H : Heap} {locs : List Loc} {ls : Array Slot} (hP : PP G (lwW G a v mo ki pr df co bi g9 lr bf tn ln nx ct hv v0 k0 v1 k1 oa of mh m1 m2 m3 m4 m5 ss hi sl tx ne th kn ke le sp wr si on tw dn) H) (hD : va_D (lo G) (lwW G a v mo ki pr df co bi g9 lr bf tn ln nx ct hv v0 k0 v1 k1 oa of mh m1 m2 m3 m4 m5 ss hi sl tx ne th kn ke le sp wr si on tw dn)) (hS : va_S (lo G) s.heap H locs) (hl : lv_has ls 7 [(0, .ref bq), (1, .ref (a 0)), (2, .ref mh), (3, .ref oa), (4, .int (nI (i)))])
    (hk : ∀ (H : Heap) (locs : List Loc) (ls : Array Slot), PP G (lwW G a v mo ki pr df co bi g9 lr bf tn ln nx ct hv v0 k0 v1 k1 oa of mh m1 m2 m3 m4 m5 ss hi sl tx ne (nI 2) kn ke le sp wr si on tw dn) H → va_D (lo G) (lwW G a v mo ki pr df co bi g9 lr bf tn ln nx ct hv v0 k0 v1 k1 oa of mh m1 m2 m3 m4 m5 ss hi sl tx ne (nI 2) kn ke le sp wr si on tw dn) → va_S (lo G) s.heap H locs → lv_has ls 7 [(0, .ref bq), (1, .ref (a 0)), (2, .ref mh), (3, .ref oa), (4, .int (nI (i)))] → W pg l ev room_1 s m #[Value.ref bq] below meth c H locs (c0 + 1) (s0 + 6) Q (F0 m 1768 ls [])) :
    W pg l ev room_1 s m #[Value.ref bq] below meth c H locs c0 s0 Q (F0 m 1115 ls []) := by
  obtain ⟨hx, hb, hml, hown, hts, hX, hbl, hCX, hgB, hfl, hL9⟩ := hLK
  have hC := hCX.1
  have hLo : ∀ q, lo G q → lo G q := fun _ h => h
  have hA : ∀ q, s.heap.size ≤ q → lo G q := fun q h => by show gB G ≤ q; rw [hgB]; exact h
  have hbA : ¬ lo G bq := by show ¬ gB G ≤ bq; rw [hgB]; omega
  refine lv_aload_n hx hb dL_law_1115 rfl (lv_at hl 1 rfl) ?_
  refine lv_aload_n hx hb dL_law_1116 rfl (lv_at hl 0 rfl) ?_
  refine lv_iload hx hb dL_law_1117 (lv_at hl 4 rfl) ?_
  refine lv_iconst (v := nI (1)) hx hb dL_law_1119 (by decide) ?_
  refine gAdd (z := nI (i + 1)) hx hb dL_law_1120 (nI_add _ _) ?_
  refine gScr (i := i + 1) (v := nI (p)) hx hb hX hbl hbA hS (by omega) hL9 ha1 dL_law_1121 ?_
  refine lv_aload_n hx hb dL_law_1122 rfl (lv_at hl 0 rfl) ?_
  refine lv_iload hx hb dL_law_1123 (lv_at hl 4 rfl) ?_
  refine lv_iconst (v := nI (2)) hx hb dL_law_1125 (by decide) ?_
  refine gAdd (z := nI (i + 2)) hx hb dL_law_1126 (nI_add _ _) ?_
  refine gScr (i := i + 2) (v := x0) hx hb hX hbl hbA hS (by omega) hL9 ha2 dL_law_1127 ?_
  refine lv_aload_n hx hb dL_law_1128 rfl (lv_at hl 3 rfl) ?_
  refine kPreI (vx_runSW (As := [.ref (a 0), .int (nI (p)), .int (x0), .ref oa]) (rest := []) ⟨hx, hb, hml, hown, hts⟩ (c_L_bitsWith_2 a v mo ki pr df co bi g9 lr bf tn ln nx ct hv v0 k0 v1 k1 oa of p x0 (hp) (hbad) hfl (PP_l hP) ((pre_D hD).weaken (fun _ _ _ h => hLo _ h))) (vx_cwSW 4 hts gL_law_L_bitsWith rfl rfl rfl (by decide +kernel) ⟨(Nat.le_of_ble_eq_true rfl), (Nat.le_of_ble_eq_true rfl)⟩) (preSX hCX hS hLo) rfl rfl hl.1 rfl (lv_room (Nat.le_of_ble_eq_true rfl)) dL_law_1129 ⟨by show c0 + _ ≤ 601024; omega, by show s0 + _ ≤ 7293034; omega⟩) hP hD hS hA (fun _ => lw_fst) (fun r_3 u_1 H locs q_2 hP hD hS => ?_)
  have hP : PP G (lwW G a v mo ki pr df co bi g9 lr bf tn ln nx ct hv v0 k0 v1 k1 oa of mh m1 m2 m3 m4 m5 ss hi sl tx ne th kn ke le sp wr si on tw dn) H := hP
  have hD : va_D (lo G) (lwW G a v mo ki pr df co bi g9 lr bf tn ln nx ct hv v0 k0 v1 k1 oa of mh m1 m2 m3 m4 m5 ss hi sl tx ne th kn ke le sp wr si on tw dn) := hD
  refine topE (v' := nI (2)) (q_2) ?_
  refine lv_istore (lv' := [(5, .int (nI (2))), (0, .ref bq), (1, .ref (a 0)), (2, .ref mh), (3, .ref oa), (4, .int (nI (i)))]) hx hb dL_law_1132 hl (by decide) rfl (fun ls hl => ?_)
  refine lv_aload_n hx hb dL_law_1134 rfl (lv_at hl 3 rfl) ?_
  refine lv_aload_n hx hb dL_law_1135 rfl (lv_at hl 1 rfl) ?_
  refine lv_iload hx hb dL_law_1136 (lv_at hl 5 rfl) ?_
  refine lv_iconst (v := nI (1)) hx hb dL_law_1138 (by decide) ?_
  refine gAdd (z := nI (i + 1)) hx hb dL_law_1139 (nI_add _ _) ?_
  refine gScr (i := i + 1) (v := nI (p)) hx hb hX hbl hbA hS (by omega) hL9 ha1 dL_law_1140 ?_
  refine lv_aload_n hx hb dL_law_1141 rfl (lv_at hl 1 rfl) ?_
  refine lv_iload hx hb dL_law_1142 (lv_at hl 5 rfl) ?_
  refine lv_iconst (v := nI (2)) hx hb dL_law_1144 (by decide) ?_
  refine gAdd (z := nI (i + 2)) hx hb dL_law_1145 (nI_add _ _) ?_
  refine gScr (i := i + 2) (v := x0) hx hb hX hbl hbA hS (by omega) hL9 ha2 dL_law_1146 ?_
  refine kSufI (va_runV (As := [.int (nI (p)), .int (x0)]) (rest := []) ⟨hx, hb, hml, hown, hts⟩ (c_X9_bitsWith_2 mh m1 m2 m3 m4 m5 ss hi sl tx ne th kn ke le sp wr si on tw dn p x0 (hp) (hbad) (PP_r hP) ((pre_D (va_D_swap hD)).weaken (fun _ _ _ h => hLo _ h))) (cwV 2 hts gL_law_X9_bitsWith rfl rfl rfl (by decide +kernel) ⟨(Nat.le_of_ble_eq_true rfl), (Nat.le_of_ble_eq_true rfl)⟩) (preV hC hS hLo (PP_r hP) (ci := 8) (q0 := 0) rfl rfl) rfl rfl hl.1 rfl (lv_room (Nat.le_of_ble_eq_true rfl)) dL_law_1147 ⟨by show c0 + _ ≤ 601024; omega, by show s0 + _ ≤ 7293034; omega⟩) hP hD hS hA (fun _ => rfl) (fun r_6 u_4 H locs q_5 hP hD hS => ?_)
  have hP : PP G (lwW G a v mo ki pr df co bi g9 lr bf tn ln nx ct hv v0 k0 v1 k1 oa of mh m1 m2 m3 m4 m5 ss hi sl tx ne (nI 2) kn ke le sp wr si on tw dn) H := hP
  have hD : va_D (lo G) (lwW G a v mo ki pr df co bi g9 lr bf tn ln nx ct hv v0 k0 v1 k1 oa of mh m1 m2 m3 m4 m5 ss hi sl tx ne (nI 2) kn ke le sp wr si on tw dn) := hD
  refine topE (v' := nI (0)) (q_5) ?_
  refine lv_istore (lv' := [(6, .int (nI (0))), (5, .int (nI (2))), (0, .ref bq), (1, .ref (a 0)), (2, .ref mh), (3, .ref oa), (4, .int (nI (i)))]) hx hb dL_law_1150 hl (by decide) rfl (fun ls hl => ?_)
  refine lv_aload_n hx hb dL_law_1152 rfl (lv_at hl 4 rfl) ?_
  refine kPi (va_runV (As := []) (rest := []) ⟨hx, hb, hml, hown, hts⟩ (c_X9_thrown mh m1 m2 m3 m4 m5 ss hi sl tx ne (nI (2)) kn ke le sp wr si on tw dn (PP_r hP)) (cwV 0 hts gL_law_X9_thrown rfl rfl rfl (by decide +kernel) ⟨(Nat.le_of_ble_eq_true rfl), (Nat.le_of_ble_eq_true rfl)⟩) (preV hC hS hLo (PP_r hP) (ci := 8) (q0 := 0) rfl rfl) rfl rfl hl.1 rfl (lv_room (Nat.le_of_ble_eq_true rfl)) dL_law_1153 ⟨by show c0 + _ ≤ 601024; omega, by show s0 + _ ≤ 7293034; omega⟩) hS (fun locs hS => ?_)
  refine lv_iload hx hb dL_law_1156 (lv_at hl 1 rfl) ?_
  refine lv_icmp_eq (tgt := 1163) hx hb dL_law_1158 (by decide) (fun c_7 => ?_) (fun c_7 => ?_)
  · have f_8 := c_7
    refine lv_iload hx hb dL_law_1163 (lv_at hl 1 rfl) ?_
    refine lv_if_ne (tgt := 1180) hx hb dL_law_1165 (by decide) (fun c_9 => ?_) (fun c_9 => ?_)
    · have f_10 : ¬ (2 : Int) = (0 : Int) := fun z => c_9 ((c_eq (nI_toInt (n := 2) (by omega)) rfl).mpr z)
      refine lv_goto (tgt := 1768) hx hb dL_law_1180 (by decide) ?_
      exact hk H locs ls hP hD hS (lv_sub hl [2, 3, 4, 5, 6] rfl)
    · have f_11 : (2 : Int) = (0 : Int) := (c_eq (nI_toInt (n := 2) (by omega)) rfl).mp c_9
      exfalso; omega
  · have f_12 := c_7
    exact absurd rfl f_12

set_option maxHeartbeats 4000000 in
set_option maxRecDepth 100000 in
theorem lw_18_ok {pg : Program} {l : Launch} {ev : Env} {s : State} {m : MethodId} {below : List Frame} {meth : Method} {c : Code} {Q : State → Prop} {G : GT} {bq L : Nat} {xs : Nat → Int32} (hLK : LK pg l s m meth c bq L xs G) (c0 s0 : Nat) (hroom : c0 + 1 ≤ 601024 ∧ s0 + 6 ≤ 7293034) (a : Nat → Nat) (v : SVT) (mo ki : Nat → Nat) (pr df : Nat → Int) (co : Int32) (bi : Nat) (g9 : Nat → Int32) (lr : Nat) (bf : Nat → Int) (tn : Nat → Nat) (ln nx ct : Nat) (hv : Nat → SVT) (v0 : SVT) (k0 : Nat) (v1 : SVT) (k1 : Nat) (oa : Nat) (of : Nat → Int64) (mh m1 m2 m3 m4 m5 : Nat) (ss hi sl : Nat → Int) (tx : Nat → Nat) (ne : Nat → Int) (th : Int32) (kn ke le : Nat) (sp wr si on tw dn : Int32) (i : Nat) (b q : Nat) (hi5 : i + 5 ≤ L) (ha1 : xs (i + 1) = nI (b)) (ha2 : xs (i + 2) = nI (q)) (hd : R15 v.1) (ht : R15 v.2.1) (hdf : D15 df) (hmo : M25 mo) (hb4 : b < 4) (hq : 1 ≤ q ∧ q ≤ 8) (hMR : MR ss) (heq : nI (BTM (dS ss) (tS ss) b q) = nI (BTM v.1 v.2.1 b q)) {H : Heap} {locs : List Loc} {ls : Array Slot} (hP : PP G (lwW G a v mo ki pr df co bi g9 lr bf tn ln nx ct hv v0 k0 v1 k1 oa of mh m1 m2 m3 m4 m5 ss hi sl tx ne th kn ke le sp wr si on tw dn) H) (hD : va_D (lo G) (lwW G a v mo ki pr df co bi g9 lr bf tn ln nx ct hv v0 k0 v1 k1 oa of mh m1 m2 m3 m4 m5 ss hi sl tx ne th kn ke le sp wr si on tw dn)) (hS : va_S (lo G) s.heap H locs) (hl : lv_has ls 7 [(0, .ref bq), (1, .ref (a 0)), (2, .ref mh), (3, .ref oa), (4, .int (nI (i)))])
    (hk : ∀ (u_1 : (Nat → Int32) × Nat) (H : Heap) (locs : List Loc) (ls : Array Slot), PP G (lwW G a v (va_up mo b (BEST v.1 v.2.1 b)) ki (fpS v.2.1 b (BEST v.1 v.2.1 b) pr 16) (fdS v.1 v.2.1 b (BEST v.1 v.2.1 b) df 16) co bi u_1.1 u_1.2 bf tn ln nx ct hv v0 k0 v1 k1 oa (vp_updL of 0 ((nI (BTM v.1 v.2.1 b q)).toInt64)) mh m1 m2 m3 m4 m5 ss hi sl tx ne (nI 0) kn ke le sp wr si on tw dn) H → va_D (lo G) (lwW G a v (va_up mo b (BEST v.1 v.2.1 b)) ki (fpS v.2.1 b (BEST v.1 v.2.1 b) pr 16) (fdS v.1 v.2.1 b (BEST v.1 v.2.1 b) df 16) co bi u_1.1 u_1.2 bf tn ln nx ct hv v0 k0 v1 k1 oa (vp_updL of 0 ((nI (BTM v.1 v.2.1 b q)).toInt64)) mh m1 m2 m3 m4 m5 ss hi sl tx ne (nI 0) kn ke le sp wr si on tw dn) → va_S (lo G) s.heap H locs → lv_has ls 7 [(0, .ref bq), (1, .ref (a 0)), (2, .ref mh), (3, .ref oa), (4, .int (nI (i)))] → W pg l ev room_1 s m #[Value.ref bq] below meth c H locs (c0 + 0) (s0 + 0) Q (F0 m 1768 ls [])) :
    W pg l ev room_1 s m #[Value.ref bq] below meth c H locs c0 s0 Q (F0 m 1183 ls []) := by
  obtain ⟨hx, hb, hml, hown, hts, hX, hbl, hCX, hgB, hfl, hL9⟩ := hLK
  have hC := hCX.1
  have hLo : ∀ q, lo G q → lo G q := fun _ h => h
  have hA : ∀ q, s.heap.size ≤ q → lo G q := fun q h => by show gB G ≤ q; rw [hgB]; exact h
  have hbA : ¬ lo G bq := by show ¬ gB G ≤ bq; rw [hgB]; omega
  refine lv_aload_n hx hb dL_law_1183 rfl (lv_at hl 1 rfl) ?_
  refine lv_aload_n hx hb dL_law_1184 rfl (lv_at hl 0 rfl) ?_
  refine lv_iload hx hb dL_law_1185 (lv_at hl 4 rfl) ?_
  refine lv_iconst (v := nI (1)) hx hb dL_law_1187 (by decide) ?_
  refine gAdd (z := nI (i + 1)) hx hb dL_law_1188 (nI_add _ _) ?_
  refine gScr (i := i + 1) (v := nI (b)) hx hb hX hbl hbA hS (by omega) hL9 ha1 dL_law_1189 ?_
  refine lv_aload_n hx hb dL_law_1190 rfl (lv_at hl 0 rfl) ?_
  refine lv_iload hx hb dL_law_1191 (lv_at hl 4 rfl) ?_
  refine lv_iconst (v := nI (2)) hx hb dL_law_1193 (by decide) ?_
  refine gAdd (z := nI (i + 2)) hx hb dL_law_1194 (nI_add _ _) ?_
  refine gScr (i := i + 2) (v := nI (q)) hx hb hX hbl hbA hS (by omega) hL9 ha2 dL_law_1195 ?_
  refine lv_aload_n hx hb dL_law_1196 rfl (lv_at hl 3 rfl) ?_
  refine kPreI (vx_runSW (As := [.ref (a 0), .int (nI (b)), .int (nI (q)), .ref oa]) (rest := []) ⟨hx, hb, hml, hown, hts⟩ (c_L_bitsByWriting a v mo ki pr df co bi g9 lr bf tn ln nx ct hv v0 k0 v1 k1 oa of b q (hd) (ht) (hdf) (hmo) (hb4) (hq) (PP_l hP) ((pre_D hD).weaken (fun _ _ _ h => hLo _ h))) (vx_cwSW 4 hts gL_law_L_bitsByWriting rfl rfl rfl (by decide +kernel) ⟨(Nat.le_of_ble_eq_true rfl), (Nat.le_of_ble_eq_true rfl)⟩) (preS hC hS hLo) rfl rfl hl.1 rfl (lv_room (Nat.le_of_ble_eq_true rfl)) dL_law_1197 ⟨by show c0 + _ ≤ 601024; omega, by show s0 + _ ≤ 7293034; omega⟩) hP hD hS hA (fun _ => lw_fst) (fun r_3 u_1 H locs q_2 hP hD hS => ?_)
  have hP : PP G (lwW G a v (va_up mo b (BEST v.1 v.2.1 b)) ki (fpS v.2.1 b (BEST v.1 v.2.1 b) pr 16) (fdS v.1 v.2.1 b (BEST v.1 v.2.1 b) df 16) co bi u_1.1 u_1.2 bf tn ln nx ct hv v0 k0 v1 k1 oa (vp_updL of 0 ((nI (BTM v.1 v.2.1 b q)).toInt64)) mh m1 m2 m3 m4 m5 ss hi sl tx ne th kn ke le sp wr si on tw dn) H := hP
  have hD : va_D (lo G) (lwW G a v (va_up mo b (BEST v.1 v.2.1 b)) ki (fpS v.2.1 b (BEST v.1 v.2.1 b) pr 16) (fdS v.1 v.2.1 b (BEST v.1 v.2.1 b) df 16) co bi u_1.1 u_1.2 bf tn ln nx ct hv v0 k0 v1 k1 oa (vp_updL of 0 ((nI (BTM v.1 v.2.1 b q)).toInt64)) mh m1 m2 m3 m4 m5 ss hi sl tx ne th kn ke le sp wr si on tw dn) := hD
  refine topE (v' := nI (0)) (q_2) ?_
  refine lv_istore (lv' := [(5, .int (nI (0))), (0, .ref bq), (1, .ref (a 0)), (2, .ref mh), (3, .ref oa), (4, .int (nI (i)))]) hx hb dL_law_1200 hl (by decide) rfl (fun ls hl => ?_)
  refine lv_aload_n hx hb dL_law_1202 rfl (lv_at hl 3 rfl) ?_
  refine lv_aload_n hx hb dL_law_1203 rfl (lv_at hl 1 rfl) ?_
  refine lv_iload hx hb dL_law_1204 (lv_at hl 5 rfl) ?_
  refine lv_iconst (v := nI (1)) hx hb dL_law_1206 (by decide) ?_
  refine gAdd (z := nI (i + 1)) hx hb dL_law_1207 (nI_add _ _) ?_
  refine gScr (i := i + 1) (v := nI (b)) hx hb hX hbl hbA hS (by omega) hL9 ha1 dL_law_1208 ?_
  refine lv_aload_n hx hb dL_law_1209 rfl (lv_at hl 1 rfl) ?_
  refine lv_iload hx hb dL_law_1210 (lv_at hl 5 rfl) ?_
  refine lv_iconst (v := nI (2)) hx hb dL_law_1212 (by decide) ?_
  refine gAdd (z := nI (i + 2)) hx hb dL_law_1213 (nI_add _ _) ?_
  refine gScr (i := i + 2) (v := nI (q)) hx hb hX hbl hbA hS (by omega) hL9 ha2 dL_law_1214 ?_
  refine kSufI (va_runV (As := [.int (nI (b)), .int (nI (q))]) (rest := []) ⟨hx, hb, hml, hown, hts⟩ (c_X9_bitsByWriting mh m1 m2 m3 m4 m5 ss hi sl tx ne th kn ke le sp wr si on tw dn b q (hMR) (hb4) (hq) (PP_r hP) ((pre_D (va_D_swap hD)).weaken (fun _ _ _ h => hLo _ h))) (cwV 2 hts gL_law_X9_bitsByWriting rfl rfl rfl (by decide +kernel) ⟨(Nat.le_of_ble_eq_true rfl), (Nat.le_of_ble_eq_true rfl)⟩) (preV hC hS hLo (PP_r hP) (ci := 8) (q0 := 0) rfl rfl) rfl rfl hl.1 rfl (lv_room (Nat.le_of_ble_eq_true rfl)) dL_law_1215 ⟨by show c0 + _ ≤ 601024; omega, by show s0 + _ ≤ 7293034; omega⟩) hP hD hS hA (fun _ => rfl) (fun r_6 u_4 H locs q_5 hP hD hS => ?_)
  have hP : PP G (lwW G a v (va_up mo b (BEST v.1 v.2.1 b)) ki (fpS v.2.1 b (BEST v.1 v.2.1 b) pr 16) (fdS v.1 v.2.1 b (BEST v.1 v.2.1 b) df 16) co bi u_1.1 u_1.2 bf tn ln nx ct hv v0 k0 v1 k1 oa (vp_updL of 0 ((nI (BTM v.1 v.2.1 b q)).toInt64)) mh m1 m2 m3 m4 m5 ss hi sl tx ne (nI 0) kn ke le sp wr si on tw dn) H := hP
  have hD : va_D (lo G) (lwW G a v (va_up mo b (BEST v.1 v.2.1 b)) ki (fpS v.2.1 b (BEST v.1 v.2.1 b) pr 16) (fdS v.1 v.2.1 b (BEST v.1 v.2.1 b) df 16) co bi u_1.1 u_1.2 bf tn ln nx ct hv v0 k0 v1 k1 oa (vp_updL of 0 ((nI (BTM v.1 v.2.1 b q)).toInt64)) mh m1 m2 m3 m4 m5 ss hi sl tx ne (nI 0) kn ke le sp wr si on tw dn) := hD
  refine topE (v' := nI (BTM v.1 v.2.1 b q)) (q_5.trans (heq)) ?_
  refine lv_istore (lv' := [(6, .int (nI (BTM v.1 v.2.1 b q))), (5, .int (nI (0))), (0, .ref bq), (1, .ref (a 0)), (2, .ref mh), (3, .ref oa), (4, .int (nI (i)))]) hx hb dL_law_1218 hl (by decide) rfl (fun ls hl => ?_)
  refine lv_aload_n hx hb dL_law_1220 rfl (lv_at hl 4 rfl) ?_
  refine kPi (va_runV (As := []) (rest := []) ⟨hx, hb, hml, hown, hts⟩ (c_X9_thrown mh m1 m2 m3 m4 m5 ss hi sl tx ne (nI (0)) kn ke le sp wr si on tw dn (PP_r hP)) (cwV 0 hts gL_law_X9_thrown rfl rfl rfl (by decide +kernel) ⟨(Nat.le_of_ble_eq_true rfl), (Nat.le_of_ble_eq_true rfl)⟩) (preV hC hS hLo (PP_r hP) (ci := 8) (q0 := 0) rfl rfl) rfl rfl hl.1 rfl (lv_room (Nat.le_of_ble_eq_true rfl)) dL_law_1221 ⟨by show c0 + _ ≤ 601024; omega, by show s0 + _ ≤ 7293034; omega⟩) hS (fun locs hS => ?_)
  refine lv_iload hx hb dL_law_1224 (lv_at hl 1 rfl) ?_
  refine lv_icmp_eq (tgt := 1231) hx hb dL_law_1226 (by decide) (fun c_7 => ?_) (fun c_7 => ?_)
  · have f_8 := c_7
    refine lv_iload hx hb dL_law_1231 (lv_at hl 1 rfl) ?_
    refine lv_if_ne (tgt := 1248) hx hb dL_law_1233 (by decide) (fun c_9 => ?_) (fun c_9 => ?_)
    · have f_10 : ¬ (0 : Int) = (0 : Int) := fun z => c_9 ((c_eq (nI_toInt (n := 0) (by omega)) rfl).mpr z)
      exfalso; omega
    · have f_11 : (0 : Int) = (0 : Int) := (c_eq (nI_toInt (n := 0) (by omega)) rfl).mp c_9
      refine lv_aload_n hx hb dL_law_1236 rfl (lv_at hl 5 rfl) ?_
      refine lv_iconst (v := nI (0)) hx hb dL_law_1237 (by decide) ?_
      refine gLald (j := 0) hx hb hC.K (PP_r (PP_l hP)) 0 4 rfl rfl rfl (by decide) (by decide) dL_law_1238 ?_
      refine W.eq (g2 := F0 m 1239 ls [.long ((nI (BTM v.1 v.2.1 b q)).toInt64)]) rfl ?_
      refine lv_iload hx hb dL_law_1239 (lv_at hl 0 rfl) ?_
      refine lv_i2l (v := (nI (BTM v.1 v.2.1 b q)).toInt64) hx hb dL_law_1241 (rfl) ?_
      refine W.lcmp hx hb dL_law_1242 ?_
      refine topE (v' := nI (0)) (lg_self _) ?_
      refine lv_if_eq (tgt := 1248) hx hb dL_law_1243 (by decide) (fun c_12 => ?_) (fun c_12 => ?_)
      · have f_13 : (0 : Int) = (0 : Int) := (c_eq (nI_toInt (n := 0) (by omega)) rfl).mp c_12
        refine lv_goto (tgt := 1768) hx hb dL_law_1248 (by decide) ?_
        exact hk u_1 H locs ls hP hD hS (lv_sub hl [2, 3, 4, 5, 6] rfl)
      · have f_14 : ¬ (0 : Int) = (0 : Int) := fun z => c_12 ((c_eq (nI_toInt (n := 0) (by omega)) rfl).mpr z)
        exfalso; omega
  · have f_15 := c_7
    exact absurd rfl f_15

set_option maxHeartbeats 4000000 in
set_option maxRecDepth 100000 in
theorem lw_18_x1 {pg : Program} {l : Launch} {ev : Env} {s : State} {m : MethodId} {below : List Frame} {meth : Method} {c : Code} {Q : State → Prop} {G : GT} {bq L : Nat} {xs : Nat → Int32} (hLK : LK pg l s m meth c bq L xs G) (c0 s0 : Nat) (hroom : c0 + 1 ≤ 601024 ∧ s0 + 6 ≤ 7293034) (a : Nat → Nat) (v : SVT) (mo ki : Nat → Nat) (pr df : Nat → Int) (co : Int32) (bi : Nat) (g9 : Nat → Int32) (lr : Nat) (bf : Nat → Int) (tn : Nat → Nat) (ln nx ct : Nat) (hv : Nat → SVT) (v0 : SVT) (k0 : Nat) (v1 : SVT) (k1 : Nat) (oa : Nat) (of : Nat → Int64) (mh m1 m2 m3 m4 m5 : Nat) (ss hi sl : Nat → Int) (tx : Nat → Nat) (ne : Nat → Int) (th : Int32) (kn ke le : Nat) (sp wr si on tw dn : Int32) (i : Nat) (p x0 : Int32) (hi5 : i + 5 ≤ L) (ha1 : xs (i + 1) = p) (ha2 : xs (i + 2) = x0) (hbad : p.toInt < 0 ∨ 4 ≤ p.toInt) {H : Heap} {locs : List Loc} {ls : Array Slot} (hP : PP G (lwW G a v mo ki pr df co bi g9 lr bf tn ln nx ct hv v0 k0 v1 k1 oa of mh m1 m2 m3 m4 m5 ss hi sl tx ne th kn ke le sp wr si on tw dn) H) (hD : va_D (lo G) (lwW G a v mo ki pr df co bi g9 lr bf tn ln nx ct hv v0 k0 v1 k1 oa of mh m1 m2 m3 m4 m5 ss hi sl tx ne th kn ke le sp wr si on tw dn)) (hS : va_S (lo G) s.heap H locs) (hl : lv_has ls 7 [(0, .ref bq), (1, .ref (a 0)), (2, .ref mh), (3, .ref oa), (4, .int (nI (i)))])
    (hk : ∀ (H : Heap) (locs : List Loc) (ls : Array Slot), PP G (lwW G a v mo ki pr df co bi g9 lr bf tn ln nx ct hv v0 k0 v1 k1 oa of mh m1 m2 m3 m4 m5 ss hi sl tx ne (nI 1) kn ke le sp wr si on tw dn) H → va_D (lo G) (lwW G a v mo ki pr df co bi g9 lr bf tn ln nx ct hv v0 k0 v1 k1 oa of mh m1 m2 m3 m4 m5 ss hi sl tx ne (nI 1) kn ke le sp wr si on tw dn) → va_S (lo G) s.heap H locs → lv_has ls 7 [(0, .ref bq), (1, .ref (a 0)), (2, .ref mh), (3, .ref oa), (4, .int (nI (i)))] → W pg l ev room_1 s m #[Value.ref bq] below meth c H locs (c0 + 1) (s0 + 6) Q (F0 m 1768 ls [])) :
    W pg l ev room_1 s m #[Value.ref bq] below meth c H locs c0 s0 Q (F0 m 1183 ls []) := by
  obtain ⟨hx, hb, hml, hown, hts, hX, hbl, hCX, hgB, hfl, hL9⟩ := hLK
  have hC := hCX.1
  have hLo : ∀ q, lo G q → lo G q := fun _ h => h
  have hA : ∀ q, s.heap.size ≤ q → lo G q := fun q h => by show gB G ≤ q; rw [hgB]; exact h
  have hbA : ¬ lo G bq := by show ¬ gB G ≤ bq; rw [hgB]; omega
  refine lv_aload_n hx hb dL_law_1183 rfl (lv_at hl 1 rfl) ?_
  refine lv_aload_n hx hb dL_law_1184 rfl (lv_at hl 0 rfl) ?_
  refine lv_iload hx hb dL_law_1185 (lv_at hl 4 rfl) ?_
  refine lv_iconst (v := nI (1)) hx hb dL_law_1187 (by decide) ?_
  refine gAdd (z := nI (i + 1)) hx hb dL_law_1188 (nI_add _ _) ?_
  refine gScr (i := i + 1) (v := p) hx hb hX hbl hbA hS (by omega) hL9 ha1 dL_law_1189 ?_
  refine lv_aload_n hx hb dL_law_1190 rfl (lv_at hl 0 rfl) ?_
  refine lv_iload hx hb dL_law_1191 (lv_at hl 4 rfl) ?_
  refine lv_iconst (v := nI (2)) hx hb dL_law_1193 (by decide) ?_
  refine gAdd (z := nI (i + 2)) hx hb dL_law_1194 (nI_add _ _) ?_
  refine gScr (i := i + 2) (v := x0) hx hb hX hbl hbA hS (by omega) hL9 ha2 dL_law_1195 ?_
  refine lv_aload_n hx hb dL_law_1196 rfl (lv_at hl 3 rfl) ?_
  refine kPreI (vx_runSW (As := [.ref (a 0), .int (p), .int (x0), .ref oa]) (rest := []) ⟨hx, hb, hml, hown, hts⟩ (c_L_bitsByWriting_1 a v mo ki pr df co bi g9 lr bf tn ln nx ct hv v0 k0 v1 k1 oa of p x0 (hbad) hfl (PP_l hP) ((pre_D hD).weaken (fun _ _ _ h => hLo _ h))) (vx_cwSW 4 hts gL_law_L_bitsByWriting rfl rfl rfl (by decide +kernel) ⟨(Nat.le_of_ble_eq_true rfl), (Nat.le_of_ble_eq_true rfl)⟩) (preSX hCX hS hLo) rfl rfl hl.1 rfl (lv_room (Nat.le_of_ble_eq_true rfl)) dL_law_1197 ⟨by show c0 + _ ≤ 601024; omega, by show s0 + _ ≤ 7293034; omega⟩) hP hD hS hA (fun _ => lw_fst) (fun r_3 u_1 H locs q_2 hP hD hS => ?_)
  have hP : PP G (lwW G a v mo ki pr df co bi g9 lr bf tn ln nx ct hv v0 k0 v1 k1 oa of mh m1 m2 m3 m4 m5 ss hi sl tx ne th kn ke le sp wr si on tw dn) H := hP
  have hD : va_D (lo G) (lwW G a v mo ki pr df co bi g9 lr bf tn ln nx ct hv v0 k0 v1 k1 oa of mh m1 m2 m3 m4 m5 ss hi sl tx ne th kn ke le sp wr si on tw dn) := hD
  refine topE (v' := nI (1)) (q_2) ?_
  refine lv_istore (lv' := [(5, .int (nI (1))), (0, .ref bq), (1, .ref (a 0)), (2, .ref mh), (3, .ref oa), (4, .int (nI (i)))]) hx hb dL_law_1200 hl (by decide) rfl (fun ls hl => ?_)
  refine lv_aload_n hx hb dL_law_1202 rfl (lv_at hl 3 rfl) ?_
  refine lv_aload_n hx hb dL_law_1203 rfl (lv_at hl 1 rfl) ?_
  refine lv_iload hx hb dL_law_1204 (lv_at hl 5 rfl) ?_
  refine lv_iconst (v := nI (1)) hx hb dL_law_1206 (by decide) ?_
  refine gAdd (z := nI (i + 1)) hx hb dL_law_1207 (nI_add _ _) ?_
  refine gScr (i := i + 1) (v := p) hx hb hX hbl hbA hS (by omega) hL9 ha1 dL_law_1208 ?_
  refine lv_aload_n hx hb dL_law_1209 rfl (lv_at hl 1 rfl) ?_
  refine lv_iload hx hb dL_law_1210 (lv_at hl 5 rfl) ?_
  refine lv_iconst (v := nI (2)) hx hb dL_law_1212 (by decide) ?_
  refine gAdd (z := nI (i + 2)) hx hb dL_law_1213 (nI_add _ _) ?_
  refine gScr (i := i + 2) (v := x0) hx hb hX hbl hbA hS (by omega) hL9 ha2 dL_law_1214 ?_
  refine kSufI (va_runV (As := [.int (p), .int (x0)]) (rest := []) ⟨hx, hb, hml, hown, hts⟩ (c_X9_bitsByWriting_1 mh m1 m2 m3 m4 m5 ss hi sl tx ne th kn ke le sp wr si on tw dn p x0 (hbad) (PP_r hP) ((pre_D (va_D_swap hD)).weaken (fun _ _ _ h => hLo _ h))) (cwV 2 hts gL_law_X9_bitsByWriting rfl rfl rfl (by decide +kernel) ⟨(Nat.le_of_ble_eq_true rfl), (Nat.le_of_ble_eq_true rfl)⟩) (preV hC hS hLo (PP_r hP) (ci := 8) (q0 := 0) rfl rfl) rfl rfl hl.1 rfl (lv_room (Nat.le_of_ble_eq_true rfl)) dL_law_1215 ⟨by show c0 + _ ≤ 601024; omega, by show s0 + _ ≤ 7293034; omega⟩) hP hD hS hA (fun _ => rfl) (fun r_6 u_4 H locs q_5 hP hD hS => ?_)
  have hP : PP G (lwW G a v mo ki pr df co bi g9 lr bf tn ln nx ct hv v0 k0 v1 k1 oa of mh m1 m2 m3 m4 m5 ss hi sl tx ne (nI 1) kn ke le sp wr si on tw dn) H := hP
  have hD : va_D (lo G) (lwW G a v mo ki pr df co bi g9 lr bf tn ln nx ct hv v0 k0 v1 k1 oa of mh m1 m2 m3 m4 m5 ss hi sl tx ne (nI 1) kn ke le sp wr si on tw dn) := hD
  refine topE (v' := nI (0)) (q_5) ?_
  refine lv_istore (lv' := [(6, .int (nI (0))), (5, .int (nI (1))), (0, .ref bq), (1, .ref (a 0)), (2, .ref mh), (3, .ref oa), (4, .int (nI (i)))]) hx hb dL_law_1218 hl (by decide) rfl (fun ls hl => ?_)
  refine lv_aload_n hx hb dL_law_1220 rfl (lv_at hl 4 rfl) ?_
  refine kPi (va_runV (As := []) (rest := []) ⟨hx, hb, hml, hown, hts⟩ (c_X9_thrown mh m1 m2 m3 m4 m5 ss hi sl tx ne (nI (1)) kn ke le sp wr si on tw dn (PP_r hP)) (cwV 0 hts gL_law_X9_thrown rfl rfl rfl (by decide +kernel) ⟨(Nat.le_of_ble_eq_true rfl), (Nat.le_of_ble_eq_true rfl)⟩) (preV hC hS hLo (PP_r hP) (ci := 8) (q0 := 0) rfl rfl) rfl rfl hl.1 rfl (lv_room (Nat.le_of_ble_eq_true rfl)) dL_law_1221 ⟨by show c0 + _ ≤ 601024; omega, by show s0 + _ ≤ 7293034; omega⟩) hS (fun locs hS => ?_)
  refine lv_iload hx hb dL_law_1224 (lv_at hl 1 rfl) ?_
  refine lv_icmp_eq (tgt := 1231) hx hb dL_law_1226 (by decide) (fun c_7 => ?_) (fun c_7 => ?_)
  · have f_8 := c_7
    refine lv_iload hx hb dL_law_1231 (lv_at hl 1 rfl) ?_
    refine lv_if_ne (tgt := 1248) hx hb dL_law_1233 (by decide) (fun c_9 => ?_) (fun c_9 => ?_)
    · have f_10 : ¬ (1 : Int) = (0 : Int) := fun z => c_9 ((c_eq (nI_toInt (n := 1) (by omega)) rfl).mpr z)
      refine lv_goto (tgt := 1768) hx hb dL_law_1248 (by decide) ?_
      exact hk H locs ls hP hD hS (lv_sub hl [2, 3, 4, 5, 6] rfl)
    · have f_11 : (1 : Int) = (0 : Int) := (c_eq (nI_toInt (n := 1) (by omega)) rfl).mp c_9
      exfalso; omega
  · have f_12 := c_7
    exact absurd rfl f_12

set_option maxHeartbeats 4000000 in
set_option maxRecDepth 100000 in
theorem lw_18_x2 {pg : Program} {l : Launch} {ev : Env} {s : State} {m : MethodId} {below : List Frame} {meth : Method} {c : Code} {Q : State → Prop} {G : GT} {bq L : Nat} {xs : Nat → Int32} (hLK : LK pg l s m meth c bq L xs G) (c0 s0 : Nat) (hroom : c0 + 1 ≤ 601024 ∧ s0 + 6 ≤ 7293034) (a : Nat → Nat) (v : SVT) (mo ki : Nat → Nat) (pr df : Nat → Int) (co : Int32) (bi : Nat) (g9 : Nat → Int32) (lr : Nat) (bf : Nat → Int) (tn : Nat → Nat) (ln nx ct : Nat) (hv : Nat → SVT) (v0 : SVT) (k0 : Nat) (v1 : SVT) (k1 : Nat) (oa : Nat) (of : Nat → Int64) (mh m1 m2 m3 m4 m5 : Nat) (ss hi sl : Nat → Int) (tx : Nat → Nat) (ne : Nat → Int) (th : Int32) (kn ke le : Nat) (sp wr si on tw dn : Int32) (i : Nat) (p : Nat) (x0 : Int32) (hi5 : i + 5 ≤ L) (ha1 : xs (i + 1) = nI (p)) (ha2 : xs (i + 2) = x0) (hp : p < 4) (hbad : x0.toInt < 1 ∨ 8 < x0.toInt) {H : Heap} {locs : List Loc} {ls : Array Slot} (hP : PP G (lwW G a v mo ki pr df co bi g9 lr bf tn ln nx ct hv v0 k0 v1 k1 oa of mh m1 m2 m3 m4 m5 ss hi sl tx ne th kn ke le sp wr si on tw dn) H) (hD : va_D (lo G) (lwW G a v mo ki pr df co bi g9 lr bf tn ln nx ct hv v0 k0 v1 k1 oa of mh m1 m2 m3 m4 m5 ss hi sl tx ne th kn ke le sp wr si on tw dn)) (hS : va_S (lo G) s.heap H locs) (hl : lv_has ls 7 [(0, .ref bq), (1, .ref (a 0)), (2, .ref mh), (3, .ref oa), (4, .int (nI (i)))])
    (hk : ∀ (H : Heap) (locs : List Loc) (ls : Array Slot), PP G (lwW G a v mo ki pr df co bi g9 lr bf tn ln nx ct hv v0 k0 v1 k1 oa of mh m1 m2 m3 m4 m5 ss hi sl tx ne (nI 2) kn ke le sp wr si on tw dn) H → va_D (lo G) (lwW G a v mo ki pr df co bi g9 lr bf tn ln nx ct hv v0 k0 v1 k1 oa of mh m1 m2 m3 m4 m5 ss hi sl tx ne (nI 2) kn ke le sp wr si on tw dn) → va_S (lo G) s.heap H locs → lv_has ls 7 [(0, .ref bq), (1, .ref (a 0)), (2, .ref mh), (3, .ref oa), (4, .int (nI (i)))] → W pg l ev room_1 s m #[Value.ref bq] below meth c H locs (c0 + 1) (s0 + 6) Q (F0 m 1768 ls [])) :
    W pg l ev room_1 s m #[Value.ref bq] below meth c H locs c0 s0 Q (F0 m 1183 ls []) := by
  obtain ⟨hx, hb, hml, hown, hts, hX, hbl, hCX, hgB, hfl, hL9⟩ := hLK
  have hC := hCX.1
  have hLo : ∀ q, lo G q → lo G q := fun _ h => h
  have hA : ∀ q, s.heap.size ≤ q → lo G q := fun q h => by show gB G ≤ q; rw [hgB]; exact h
  have hbA : ¬ lo G bq := by show ¬ gB G ≤ bq; rw [hgB]; omega
  refine lv_aload_n hx hb dL_law_1183 rfl (lv_at hl 1 rfl) ?_
  refine lv_aload_n hx hb dL_law_1184 rfl (lv_at hl 0 rfl) ?_
  refine lv_iload hx hb dL_law_1185 (lv_at hl 4 rfl) ?_
  refine lv_iconst (v := nI (1)) hx hb dL_law_1187 (by decide) ?_
  refine gAdd (z := nI (i + 1)) hx hb dL_law_1188 (nI_add _ _) ?_
  refine gScr (i := i + 1) (v := nI (p)) hx hb hX hbl hbA hS (by omega) hL9 ha1 dL_law_1189 ?_
  refine lv_aload_n hx hb dL_law_1190 rfl (lv_at hl 0 rfl) ?_
  refine lv_iload hx hb dL_law_1191 (lv_at hl 4 rfl) ?_
  refine lv_iconst (v := nI (2)) hx hb dL_law_1193 (by decide) ?_
  refine gAdd (z := nI (i + 2)) hx hb dL_law_1194 (nI_add _ _) ?_
  refine gScr (i := i + 2) (v := x0) hx hb hX hbl hbA hS (by omega) hL9 ha2 dL_law_1195 ?_
  refine lv_aload_n hx hb dL_law_1196 rfl (lv_at hl 3 rfl) ?_
  refine kPreI (vx_runSW (As := [.ref (a 0), .int (nI (p)), .int (x0), .ref oa]) (rest := []) ⟨hx, hb, hml, hown, hts⟩ (c_L_bitsByWriting_2 a v mo ki pr df co bi g9 lr bf tn ln nx ct hv v0 k0 v1 k1 oa of p x0 (hp) (hbad) hfl (PP_l hP) ((pre_D hD).weaken (fun _ _ _ h => hLo _ h))) (vx_cwSW 4 hts gL_law_L_bitsByWriting rfl rfl rfl (by decide +kernel) ⟨(Nat.le_of_ble_eq_true rfl), (Nat.le_of_ble_eq_true rfl)⟩) (preSX hCX hS hLo) rfl rfl hl.1 rfl (lv_room (Nat.le_of_ble_eq_true rfl)) dL_law_1197 ⟨by show c0 + _ ≤ 601024; omega, by show s0 + _ ≤ 7293034; omega⟩) hP hD hS hA (fun _ => lw_fst) (fun r_3 u_1 H locs q_2 hP hD hS => ?_)
  have hP : PP G (lwW G a v mo ki pr df co bi g9 lr bf tn ln nx ct hv v0 k0 v1 k1 oa of mh m1 m2 m3 m4 m5 ss hi sl tx ne th kn ke le sp wr si on tw dn) H := hP
  have hD : va_D (lo G) (lwW G a v mo ki pr df co bi g9 lr bf tn ln nx ct hv v0 k0 v1 k1 oa of mh m1 m2 m3 m4 m5 ss hi sl tx ne th kn ke le sp wr si on tw dn) := hD
  refine topE (v' := nI (2)) (q_2) ?_
  refine lv_istore (lv' := [(5, .int (nI (2))), (0, .ref bq), (1, .ref (a 0)), (2, .ref mh), (3, .ref oa), (4, .int (nI (i)))]) hx hb dL_law_1200 hl (by decide) rfl (fun ls hl => ?_)
  refine lv_aload_n hx hb dL_law_1202 rfl (lv_at hl 3 rfl) ?_
  refine lv_aload_n hx hb dL_law_1203 rfl (lv_at hl 1 rfl) ?_
  refine lv_iload hx hb dL_law_1204 (lv_at hl 5 rfl) ?_
  refine lv_iconst (v := nI (1)) hx hb dL_law_1206 (by decide) ?_
  refine gAdd (z := nI (i + 1)) hx hb dL_law_1207 (nI_add _ _) ?_
  refine gScr (i := i + 1) (v := nI (p)) hx hb hX hbl hbA hS (by omega) hL9 ha1 dL_law_1208 ?_
  refine lv_aload_n hx hb dL_law_1209 rfl (lv_at hl 1 rfl) ?_
  refine lv_iload hx hb dL_law_1210 (lv_at hl 5 rfl) ?_
  refine lv_iconst (v := nI (2)) hx hb dL_law_1212 (by decide) ?_
  refine gAdd (z := nI (i + 2)) hx hb dL_law_1213 (nI_add _ _) ?_
  refine gScr (i := i + 2) (v := x0) hx hb hX hbl hbA hS (by omega) hL9 ha2 dL_law_1214 ?_
  refine kSufI (va_runV (As := [.int (nI (p)), .int (x0)]) (rest := []) ⟨hx, hb, hml, hown, hts⟩ (c_X9_bitsByWriting_2 mh m1 m2 m3 m4 m5 ss hi sl tx ne th kn ke le sp wr si on tw dn p x0 (hp) (hbad) (PP_r hP) ((pre_D (va_D_swap hD)).weaken (fun _ _ _ h => hLo _ h))) (cwV 2 hts gL_law_X9_bitsByWriting rfl rfl rfl (by decide +kernel) ⟨(Nat.le_of_ble_eq_true rfl), (Nat.le_of_ble_eq_true rfl)⟩) (preV hC hS hLo (PP_r hP) (ci := 8) (q0 := 0) rfl rfl) rfl rfl hl.1 rfl (lv_room (Nat.le_of_ble_eq_true rfl)) dL_law_1215 ⟨by show c0 + _ ≤ 601024; omega, by show s0 + _ ≤ 7293034; omega⟩) hP hD hS hA (fun _ => rfl) (fun r_6 u_4 H locs q_5 hP hD hS => ?_)
  have hP : PP G (lwW G a v mo ki pr df co bi g9 lr bf tn ln nx ct hv v0 k0 v1 k1 oa of mh m1 m2 m3 m4 m5 ss hi sl tx ne (nI 2) kn ke le sp wr si on tw dn) H := hP
  have hD : va_D (lo G) (lwW G a v mo ki pr df co bi g9 lr bf tn ln nx ct hv v0 k0 v1 k1 oa of mh m1 m2 m3 m4 m5 ss hi sl tx ne (nI 2) kn ke le sp wr si on tw dn) := hD
  refine topE (v' := nI (0)) (q_5) ?_
  refine lv_istore (lv' := [(6, .int (nI (0))), (5, .int (nI (2))), (0, .ref bq), (1, .ref (a 0)), (2, .ref mh), (3, .ref oa), (4, .int (nI (i)))]) hx hb dL_law_1218 hl (by decide) rfl (fun ls hl => ?_)
  refine lv_aload_n hx hb dL_law_1220 rfl (lv_at hl 4 rfl) ?_
  refine kPi (va_runV (As := []) (rest := []) ⟨hx, hb, hml, hown, hts⟩ (c_X9_thrown mh m1 m2 m3 m4 m5 ss hi sl tx ne (nI (2)) kn ke le sp wr si on tw dn (PP_r hP)) (cwV 0 hts gL_law_X9_thrown rfl rfl rfl (by decide +kernel) ⟨(Nat.le_of_ble_eq_true rfl), (Nat.le_of_ble_eq_true rfl)⟩) (preV hC hS hLo (PP_r hP) (ci := 8) (q0 := 0) rfl rfl) rfl rfl hl.1 rfl (lv_room (Nat.le_of_ble_eq_true rfl)) dL_law_1221 ⟨by show c0 + _ ≤ 601024; omega, by show s0 + _ ≤ 7293034; omega⟩) hS (fun locs hS => ?_)
  refine lv_iload hx hb dL_law_1224 (lv_at hl 1 rfl) ?_
  refine lv_icmp_eq (tgt := 1231) hx hb dL_law_1226 (by decide) (fun c_7 => ?_) (fun c_7 => ?_)
  · have f_8 := c_7
    refine lv_iload hx hb dL_law_1231 (lv_at hl 1 rfl) ?_
    refine lv_if_ne (tgt := 1248) hx hb dL_law_1233 (by decide) (fun c_9 => ?_) (fun c_9 => ?_)
    · have f_10 : ¬ (2 : Int) = (0 : Int) := fun z => c_9 ((c_eq (nI_toInt (n := 2) (by omega)) rfl).mpr z)
      refine lv_goto (tgt := 1768) hx hb dL_law_1248 (by decide) ?_
      exact hk H locs ls hP hD hS (lv_sub hl [2, 3, 4, 5, 6] rfl)
    · have f_11 : (2 : Int) = (0 : Int) := (c_eq (nI_toInt (n := 2) (by omega)) rfl).mp c_9
      exfalso; omega
  · have f_12 := c_7
    exact absurd rfl f_12

set_option maxHeartbeats 4000000 in
set_option maxRecDepth 100000 in
theorem lw_19_n {pg : Program} {l : Launch} {ev : Env} {s : State} {m : MethodId} {below : List Frame} {meth : Method} {c : Code} {Q : State → Prop} {G : GT} {bq L : Nat} {xs : Nat → Int32} (hLK : LK pg l s m meth c bq L xs G) (c0 s0 : Nat) (hroom : c0 + 1 ≤ 601024 ∧ s0 + 6 ≤ 7293034) (a : Nat → Nat) (v : SVT) (mo ki : Nat → Nat) (pr df : Nat → Int) (co : Int32) (bi : Nat) (g9 : Nat → Int32) (lr : Nat) (bf : Nat → Int) (tn : Nat → Nat) (ln nx ct : Nat) (hv : Nat → SVT) (v0 : SVT) (k0 : Nat) (v1 : SVT) (k1 : Nat) (oa : Nat) (of : Nat → Int64) (mh m1 m2 m3 m4 m5 : Nat) (ss hi sl : Nat → Int) (tx : Nat → Nat) (ne : Nat → Int) (th : Int32) (kn ke le : Nat) (sp wr si on tw dn : Int32) (i : Nat) (hi5 : i + 5 ≤ L) (hd : R15 v.1) (ht : R15 v.2.1) (hdf : D15 df) (hmo : M25 mo) (hkd : 1 ≤ v.2.2.2.2.2.2.1 ∧ v.2.2.2.2.2.2.1 ≤ 20) (hpi : v.2.2.2.2.2.2.2.1 ≤ 999) (hkey : ¬ v.2.2.2.2.2.2.2.1 % v.2.2.2.2.2.2.1 = 0) (hbu : v.2.2.2.2.2.1 ≤ 300) (hMR : MR ss) (hkey' : ¬ (ss 194).toNat % (ss 193).toNat = 0) (heq : nI (COM (dS ss) (tS ss) (ss 192).toNat) = nI (COM v.1 v.2.1 v.2.2.2.2.2.1)) {H : Heap} {locs : List Loc} {ls : Array Slot} (hP : PP G (lwW G a v mo ki pr df co bi g9 lr bf tn ln nx ct hv v0 k0 v1 k1 oa of mh m1 m2 m3 m4 m5 ss hi sl tx ne th kn ke le sp wr si on tw dn) H) (hD : va_D (lo G) (lwW G a v mo ki pr df co bi g9 lr bf tn ln nx ct hv v0 k0 v1 k1 oa of mh m1 m2 m3 m4 m5 ss hi sl tx ne th kn ke le sp wr si on tw dn)) (hS : va_S (lo G) s.heap H locs) (hl : lv_has ls 7 [(0, .ref bq), (1, .ref (a 0)), (2, .ref mh), (3, .ref oa), (4, .int (nI (i)))])
    (hk : ∀ (H : Heap) (locs : List Loc) (ls : Array Slot), PP G (lwW G a v (BEST v.1 v.2.1) (knN v.1 v.2.1 v.2.2.2.2.2.1) (pN v.1 v.2.1) (dN v.1 v.2.1) (nI (COM v.1 v.2.1 v.2.2.2.2.2.1)) (ABM v.1 v.2.1 (COM v.1 v.2.1 v.2.2.2.2.2.1) 4) g9 lr bf tn ln nx ct hv v0 k0 v1 k1 oa of mh m1 m2 m3 m4 m5 ss hi sl tx ne (nI 0) kn ke le sp wr si on tw dn) H → va_D (lo G) (lwW G a v (BEST v.1 v.2.1) (knN v.1 v.2.1 v.2.2.2.2.2.1) (pN v.1 v.2.1) (dN v.1 v.2.1) (nI (COM v.1 v.2.1 v.2.2.2.2.2.1)) (ABM v.1 v.2.1 (COM v.1 v.2.1 v.2.2.2.2.2.1) 4) g9 lr bf tn ln nx ct hv v0 k0 v1 k1 oa of mh m1 m2 m3 m4 m5 ss hi sl tx ne (nI 0) kn ke le sp wr si on tw dn) → va_S (lo G) s.heap H locs → lv_has ls 7 [(0, .ref bq), (1, .ref (a 0)), (2, .ref mh), (3, .ref oa), (4, .int (nI (i)))] → W pg l ev room_1 s m #[Value.ref bq] below meth c H locs (c0 + 0) (s0 + 0) Q (F0 m 1768 ls [])) :
    W pg l ev room_1 s m #[Value.ref bq] below meth c H locs c0 s0 Q (F0 m 1251 ls []) := by
  obtain ⟨hx, hb, hml, hown, hts, hX, hbl, hCX, hgB, hfl, hL9⟩ := hLK
  have hC := hCX.1
  have hLo : ∀ q, lo G q → lo G q := fun _ h => h
  have hA : ∀ q, s.heap.size ≤ q → lo G q := fun q h => by show gB G ≤ q; rw [hgB]; exact h
  have hbA : ¬ lo G bq := by show ¬ gB G ≤ bq; rw [hgB]; omega
  refine lv_aload_n hx hb dL_law_1251 rfl (lv_at hl 1 rfl) ?_
  simp only [lwW, lwM, xW_y3, List.append_assoc] at hP hD
  refine kPreI (va_runV (As := []) (rest := []) ⟨hx, hb, hml, hown, hts⟩ (c_X8_coarsenessNext_n a v mo ki pr df co bi g9 lr bf tn ln (hd) (ht) (hdf) (hmo) (hkd) (hpi) (hkey) (hbu) (PP_l hP) ((pre_D hD).weaken (fun _ _ _ h => hLo _ h))) (cwV 0 hts gL_law_X8_coarsenessNext rfl rfl rfl (by decide +kernel) ⟨(Nat.le_of_ble_eq_true rfl), (Nat.le_of_ble_eq_true rfl)⟩) (preV hC hS hLo hP (ci := 7) (q0 := 0) rfl rfl) rfl rfl hl.1 rfl (lv_room (Nat.le_of_ble_eq_true rfl)) dL_law_1252 ⟨by show c0 + _ ≤ 601024; omega, by show s0 + _ ≤ 7293034; omega⟩) hP hD hS hA (fun _ => rfl) (fun r_3 u_1 H locs q_2 hP hD hS => ?_)
  have hP : PP G (lwW G a v (BEST v.1 v.2.1) (knN v.1 v.2.1 v.2.2.2.2.2.1) (pN v.1 v.2.1) (dN v.1 v.2.1) (nI (COM v.1 v.2.1 v.2.2.2.2.2.1)) (ABM v.1 v.2.1 (COM v.1 v.2.1 v.2.2.2.2.2.1) 4) g9 lr bf tn ln nx ct hv v0 k0 v1 k1 oa of mh m1 m2 m3 m4 m5 ss hi sl tx ne th kn ke le sp wr si on tw dn) H := by simp only [lwW, lwM, xW_y3, List.append_assoc]; exact hP
  have hD : va_D (lo G) (lwW G a v (BEST v.1 v.2.1) (knN v.1 v.2.1 v.2.2.2.2.2.1) (pN v.1 v.2.1) (dN v.1 v.2.1) (nI (COM v.1 v.2.1 v.2.2.2.2.2.1)) (ABM v.1 v.2.1 (COM v.1 v.2.1 v.2.2.2.2.2.1) 4) g9 lr bf tn ln nx ct hv v0 k0 v1 k1 oa of mh m1 m2 m3 m4 m5 ss hi sl tx ne th kn ke le sp wr si on tw dn) := by simp only [lwW, lwM, xW_y3, List.append_assoc]; exact hD
  refine topE (v' := nI (COM v.1 v.2.1 v.2.2.2.2.2.1)) (q_2) ?_
  refine lv_aload_n hx hb dL_law_1255 rfl (lv_at hl 2 rfl) ?_
  refine kSufI (va_runV (As := []) (rest := [.int (nI (COM v.1 v.2.1 v.2.2.2.2.2.1))]) ⟨hx, hb, hml, hown, hts⟩ (c_X9_coarsenessNext_n mh m1 m2 m3 m4 m5 ss hi sl tx ne th kn ke le sp wr si on tw dn (hMR) (hkey') (PP_r hP) ((pre_D (va_D_swap hD)).weaken (fun _ _ _ h => hLo _ h))) (cwV 0 hts gL_law_X9_coarsenessNext rfl rfl rfl (by decide +kernel) ⟨(Nat.le_of_ble_eq_true rfl), (Nat.le_of_ble_eq_true rfl)⟩) (preV hC hS hLo (PP_r hP) (ci := 8) (q0 := 0) rfl rfl) rfl rfl hl.1 rfl (lv_room (Nat.le_of_ble_eq_true rfl)) dL_law_1256 ⟨by show c0 + _ ≤ 601024; omega, by show s0 + _ ≤ 7293034; omega⟩) hP hD hS hA (fun _ => rfl) (fun r_6 u_4 H locs q_5 hP hD hS => ?_)
  have hP : PP G (lwW G a v (BEST v.1 v.2.1) (knN v.1 v.2.1 v.2.2.2.2.2.1) (pN v.1 v.2.1) (dN v.1 v.2.1) (nI (COM v.1 v.2.1 v.2.2.2.2.2.1)) (ABM v.1 v.2.1 (COM v.1 v.2.1 v.2.2.2.2.2.1) 4) g9 lr bf tn ln nx ct hv v0 k0 v1 k1 oa of mh m1 m2 m3 m4 m5 ss hi sl tx ne (nI 0) kn ke le sp wr si on tw dn) H := hP
  have hD : va_D (lo G) (lwW G a v (BEST v.1 v.2.1) (knN v.1 v.2.1 v.2.2.2.2.2.1) (pN v.1 v.2.1) (dN v.1 v.2.1) (nI (COM v.1 v.2.1 v.2.2.2.2.2.1)) (ABM v.1 v.2.1 (COM v.1 v.2.1 v.2.2.2.2.2.1) 4) g9 lr bf tn ln nx ct hv v0 k0 v1 k1 oa of mh m1 m2 m3 m4 m5 ss hi sl tx ne (nI 0) kn ke le sp wr si on tw dn) := hD
  refine topE (v' := nI (COM v.1 v.2.1 v.2.2.2.2.2.1)) (q_5.trans (heq)) ?_
  refine lv_icmp_eq (tgt := 1768) hx hb dL_law_1259 (by decide) (fun c_7 => ?_) (fun c_7 => ?_)
  · have f_8 := c_7
    exact hk H locs ls hP hD hS (lv_sub hl [0, 1, 2, 3, 4] rfl)
  · have f_9 := c_7
    exact absurd rfl f_9

set_option maxHeartbeats 4000000 in
set_option maxRecDepth 100000 in
theorem lw_19_k {pg : Program} {l : Launch} {ev : Env} {s : State} {m : MethodId} {below : List Frame} {meth : Method} {c : Code} {Q : State → Prop} {G : GT} {bq L : Nat} {xs : Nat → Int32} (hLK : LK pg l s m meth c bq L xs G) (c0 s0 : Nat) (hroom : c0 + 1 ≤ 601024 ∧ s0 + 6 ≤ 7293034) (a : Nat → Nat) (v : SVT) (mo ki : Nat → Nat) (pr df : Nat → Int) (co : Int32) (bi : Nat) (g9 : Nat → Int32) (lr : Nat) (bf : Nat → Int) (tn : Nat → Nat) (ln nx ct : Nat) (hv : Nat → SVT) (v0 : SVT) (k0 : Nat) (v1 : SVT) (k1 : Nat) (oa : Nat) (of : Nat → Int64) (mh m1 m2 m3 m4 m5 : Nat) (ss hi sl : Nat → Int) (tx : Nat → Nat) (ne : Nat → Int) (th : Int32) (kn ke le : Nat) (sp wr si on tw dn : Int32) (i : Nat) (hi5 : i + 5 ≤ L) (hkd : 1 ≤ v.2.2.2.2.2.2.1 ∧ v.2.2.2.2.2.2.1 ≤ 20) (hpi : v.2.2.2.2.2.2.2.1 ≤ 999) (hkey : v.2.2.2.2.2.2.2.1 % v.2.2.2.2.2.2.1 = 0) (hMR : MR ss) (hkey' : (ss 194).toNat % (ss 193).toNat = 0) (heq : iI (-1) = iI (-1)) {H : Heap} {locs : List Loc} {ls : Array Slot} (hP : PP G (lwW G a v mo ki pr df co bi g9 lr bf tn ln nx ct hv v0 k0 v1 k1 oa of mh m1 m2 m3 m4 m5 ss hi sl tx ne th kn ke le sp wr si on tw dn) H) (hD : va_D (lo G) (lwW G a v mo ki pr df co bi g9 lr bf tn ln nx ct hv v0 k0 v1 k1 oa of mh m1 m2 m3 m4 m5 ss hi sl tx ne th kn ke le sp wr si on tw dn)) (hS : va_S (lo G) s.heap H locs) (hl : lv_has ls 7 [(0, .ref bq), (1, .ref (a 0)), (2, .ref mh), (3, .ref oa), (4, .int (nI (i)))])
    (hk : ∀ (H : Heap) (locs : List Loc) (ls : Array Slot), PP G (lwW G a v mo (fzK ki 4) pr df (iI (-1)) 264 g9 lr bf tn ln nx ct hv v0 k0 v1 k1 oa of mh m1 m2 m3 m4 m5 ss hi sl tx ne (nI 0) kn ke le sp wr si on tw dn) H → va_D (lo G) (lwW G a v mo (fzK ki 4) pr df (iI (-1)) 264 g9 lr bf tn ln nx ct hv v0 k0 v1 k1 oa of mh m1 m2 m3 m4 m5 ss hi sl tx ne (nI 0) kn ke le sp wr si on tw dn) → va_S (lo G) s.heap H locs → lv_has ls 7 [(0, .ref bq), (1, .ref (a 0)), (2, .ref mh), (3, .ref oa), (4, .int (nI (i)))] → W pg l ev room_1 s m #[Value.ref bq] below meth c H locs (c0 + 0) (s0 + 0) Q (F0 m 1768 ls [])) :
    W pg l ev room_1 s m #[Value.ref bq] below meth c H locs c0 s0 Q (F0 m 1251 ls []) := by
  obtain ⟨hx, hb, hml, hown, hts, hX, hbl, hCX, hgB, hfl, hL9⟩ := hLK
  have hC := hCX.1
  have hLo : ∀ q, lo G q → lo G q := fun _ h => h
  have hA : ∀ q, s.heap.size ≤ q → lo G q := fun q h => by show gB G ≤ q; rw [hgB]; exact h
  have hbA : ¬ lo G bq := by show ¬ gB G ≤ bq; rw [hgB]; omega
  refine lv_aload_n hx hb dL_law_1251 rfl (lv_at hl 1 rfl) ?_
  simp only [lwW, lwM, xW_y3, List.append_assoc] at hP hD
  refine kPreI (va_runV (As := []) (rest := []) ⟨hx, hb, hml, hown, hts⟩ (c_X8_coarsenessNext_k a v mo ki pr df co bi g9 lr bf tn ln (hkd) (hpi) (hkey) (PP_l hP) ((pre_D hD).weaken (fun _ _ _ h => hLo _ h))) (cwV 0 hts gL_law_X8_coarsenessNext rfl rfl rfl (by decide +kernel) ⟨(Nat.le_of_ble_eq_true rfl), (Nat.le_of_ble_eq_true rfl)⟩) (preV hC hS hLo hP (ci := 7) (q0 := 0) rfl rfl) rfl rfl hl.1 rfl (lv_room (Nat.le_of_ble_eq_true rfl)) dL_law_1252 ⟨by show c0 + _ ≤ 601024; omega, by show s0 + _ ≤ 7293034; omega⟩) hP hD hS hA (fun _ => rfl) (fun r_3 u_1 H locs q_2 hP hD hS => ?_)
  have hP : PP G (lwW G a v mo (fzK ki 4) pr df (iI (-1)) 264 g9 lr bf tn ln nx ct hv v0 k0 v1 k1 oa of mh m1 m2 m3 m4 m5 ss hi sl tx ne th kn ke le sp wr si on tw dn) H := by simp only [lwW, lwM, xW_y3, List.append_assoc]; exact hP
  have hD : va_D (lo G) (lwW G a v mo (fzK ki 4) pr df (iI (-1)) 264 g9 lr bf tn ln nx ct hv v0 k0 v1 k1 oa of mh m1 m2 m3 m4 m5 ss hi sl tx ne th kn ke le sp wr si on tw dn) := by simp only [lwW, lwM, xW_y3, List.append_assoc]; exact hD
  refine topE (v' := iI (-1)) (q_2) ?_
  refine lv_aload_n hx hb dL_law_1255 rfl (lv_at hl 2 rfl) ?_
  refine kSufI (va_runV (As := []) (rest := [.int (iI (-1))]) ⟨hx, hb, hml, hown, hts⟩ (c_X9_coarsenessNext_k mh m1 m2 m3 m4 m5 ss hi sl tx ne th kn ke le sp wr si on tw dn (hMR) (hkey') (PP_r hP) ((pre_D (va_D_swap hD)).weaken (fun _ _ _ h => hLo _ h))) (cwV 0 hts gL_law_X9_coarsenessNext rfl rfl rfl (by decide +kernel) ⟨(Nat.le_of_ble_eq_true rfl), (Nat.le_of_ble_eq_true rfl)⟩) (preV hC hS hLo (PP_r hP) (ci := 8) (q0 := 0) rfl rfl) rfl rfl hl.1 rfl (lv_room (Nat.le_of_ble_eq_true rfl)) dL_law_1256 ⟨by show c0 + _ ≤ 601024; omega, by show s0 + _ ≤ 7293034; omega⟩) hP hD hS hA (fun _ => rfl) (fun r_6 u_4 H locs q_5 hP hD hS => ?_)
  have hP : PP G (lwW G a v mo (fzK ki 4) pr df (iI (-1)) 264 g9 lr bf tn ln nx ct hv v0 k0 v1 k1 oa of mh m1 m2 m3 m4 m5 ss hi sl tx ne (nI 0) kn ke le sp wr si on tw dn) H := hP
  have hD : va_D (lo G) (lwW G a v mo (fzK ki 4) pr df (iI (-1)) 264 g9 lr bf tn ln nx ct hv v0 k0 v1 k1 oa of mh m1 m2 m3 m4 m5 ss hi sl tx ne (nI 0) kn ke le sp wr si on tw dn) := hD
  refine topE (v' := iI (-1)) (q_5.trans (heq)) ?_
  refine lv_icmp_eq (tgt := 1768) hx hb dL_law_1259 (by decide) (fun c_7 => ?_) (fun c_7 => ?_)
  · have f_8 := c_7
    exact hk H locs ls hP hD hS (lv_sub hl [0, 1, 2, 3, 4] rfl)
  · have f_9 := c_7
    exact absurd rfl f_9

set_option maxHeartbeats 4000000 in
set_option maxRecDepth 100000 in
theorem lw_20_n {pg : Program} {l : Launch} {ev : Env} {s : State} {m : MethodId} {below : List Frame} {meth : Method} {c : Code} {Q : State → Prop} {G : GT} {bq L : Nat} {xs : Nat → Int32} (hLK : LK pg l s m meth c bq L xs G) (c0 s0 : Nat) (hroom : c0 + 1 ≤ 601024 ∧ s0 + 6 ≤ 7293034) (a : Nat → Nat) (v : SVT) (mo ki : Nat → Nat) (pr df : Nat → Int) (co : Int32) (bi : Nat) (g9 : Nat → Int32) (lr : Nat) (bf : Nat → Int) (tn : Nat → Nat) (ln nx ct : Nat) (hv : Nat → SVT) (v0 : SVT) (k0 : Nat) (v1 : SVT) (k1 : Nat) (oa : Nat) (of : Nat → Int64) (mh m1 m2 m3 m4 m5 : Nat) (ss hi sl : Nat → Int) (tx : Nat → Nat) (ne : Nat → Int) (th : Int32) (kn ke le : Nat) (sp wr si on tw dn : Int32) (i : Nat) (hi5 : i + 5 ≤ L) (hd : R15 v.1) (ht : R15 v.2.1) (hdf : D15 df) (hmo : M25 mo) (hkd : 1 ≤ v.2.2.2.2.2.2.1 ∧ v.2.2.2.2.2.2.1 ≤ 20) (hpi : v.2.2.2.2.2.2.2.1 ≤ 999) (hkey : ¬ v.2.2.2.2.2.2.2.1 % v.2.2.2.2.2.2.1 = 0) (hbu : v.2.2.2.2.2.1 ≤ 300) (hMR : MR ss) (hkey' : ¬ (ss 194).toNat % (ss 193).toNat = 0) (heq : nI (ABM (dS ss) (tS ss) (COM (dS ss) (tS ss) (ss 192).toNat) 4) = nI (ABM v.1 v.2.1 (COM v.1 v.2.1 v.2.2.2.2.2.1) 4)) {H : Heap} {locs : List Loc} {ls : Array Slot} (hP : PP G (lwW G a v mo ki pr df co bi g9 lr bf tn ln nx ct hv v0 k0 v1 k1 oa of mh m1 m2 m3 m4 m5 ss hi sl tx ne th kn ke le sp wr si on tw dn) H) (hD : va_D (lo G) (lwW G a v mo ki pr df co bi g9 lr bf tn ln nx ct hv v0 k0 v1 k1 oa of mh m1 m2 m3 m4 m5 ss hi sl tx ne th kn ke le sp wr si on tw dn)) (hS : va_S (lo G) s.heap H locs) (hl : lv_has ls 7 [(0, .ref bq), (1, .ref (a 0)), (2, .ref mh), (3, .ref oa), (4, .int (nI (i)))])
    (hk : ∀ (H : Heap) (locs : List Loc) (ls : Array Slot), PP G (lwW G a v (BEST v.1 v.2.1) (knN v.1 v.2.1 v.2.2.2.2.2.1) (pN v.1 v.2.1) (dN v.1 v.2.1) (nI (COM v.1 v.2.1 v.2.2.2.2.2.1)) (ABM v.1 v.2.1 (COM v.1 v.2.1 v.2.2.2.2.2.1) 4) g9 lr bf tn ln nx ct hv v0 k0 v1 k1 oa of mh m1 m2 m3 m4 m5 ss hi sl tx ne (nI 0) kn ke le sp wr si on tw dn) H → va_D (lo G) (lwW G a v (BEST v.1 v.2.1) (knN v.1 v.2.1 v.2.2.2.2.2.1) (pN v.1 v.2.1) (dN v.1 v.2.1) (nI (COM v.1 v.2.1 v.2.2.2.2.2.1)) (ABM v.1 v.2.1 (COM v.1 v.2.1 v.2.2.2.2.2.1) 4) g9 lr bf tn ln nx ct hv v0 k0 v1 k1 oa of mh m1 m2 m3 m4 m5 ss hi sl tx ne (nI 0) kn ke le sp wr si on tw dn) → va_S (lo G) s.heap H locs → lv_has ls 7 [(0, .ref bq), (1, .ref (a 0)), (2, .ref mh), (3, .ref oa), (4, .int (nI (i)))] → W pg l ev room_1 s m #[Value.ref bq] below meth c H locs (c0 + 0) (s0 + 0) Q (F0 m 1768 ls [])) :
    W pg l ev room_1 s m #[Value.ref bq] below meth c H locs c0 s0 Q (F0 m 1264 ls []) := by
  obtain ⟨hx, hb, hml, hown, hts, hX, hbl, hCX, hgB, hfl, hL9⟩ := hLK
  have hC := hCX.1
  have hLo : ∀ q, lo G q → lo G q := fun _ h => h
  have hA : ∀ q, s.heap.size ≤ q → lo G q := fun q h => by show gB G ≤ q; rw [hgB]; exact h
  have hbA : ¬ lo G bq := by show ¬ gB G ≤ bq; rw [hgB]; omega
  refine lv_aload_n hx hb dL_law_1264 rfl (lv_at hl 1 rfl) ?_
  simp only [lwW, lwM, xW_y3, List.append_assoc] at hP hD
  refine kPreI (va_runV (As := []) (rest := []) ⟨hx, hb, hml, hown, hts⟩ (c_X8_bitsNext_n a v mo ki pr df co bi g9 lr bf tn ln (hd) (ht) (hdf) (hmo) (hkd) (hpi) (hkey) (hbu) (PP_l hP) ((pre_D hD).weaken (fun _ _ _ h => hLo _ h))) (cwV 0 hts gL_law_X8_bitsNext rfl rfl rfl (by decide +kernel) ⟨(Nat.le_of_ble_eq_true rfl), (Nat.le_of_ble_eq_true rfl)⟩) (preV hC hS hLo hP (ci := 7) (q0 := 0) rfl rfl) rfl rfl hl.1 rfl (lv_room (Nat.le_of_ble_eq_true rfl)) dL_law_1265 ⟨by show c0 + _ ≤ 601024; omega, by show s0 + _ ≤ 7293034; omega⟩) hP hD hS hA (fun _ => rfl) (fun r_3 u_1 H locs q_2 hP hD hS => ?_)
  have hP : PP G (lwW G a v (BEST v.1 v.2.1) (knN v.1 v.2.1 v.2.2.2.2.2.1) (pN v.1 v.2.1) (dN v.1 v.2.1) (nI (COM v.1 v.2.1 v.2.2.2.2.2.1)) (ABM v.1 v.2.1 (COM v.1 v.2.1 v.2.2.2.2.2.1) 4) g9 lr bf tn ln nx ct hv v0 k0 v1 k1 oa of mh m1 m2 m3 m4 m5 ss hi sl tx ne th kn ke le sp wr si on tw dn) H := by simp only [lwW, lwM, xW_y3, List.append_assoc]; exact hP
  have hD : va_D (lo G) (lwW G a v (BEST v.1 v.2.1) (knN v.1 v.2.1 v.2.2.2.2.2.1) (pN v.1 v.2.1) (dN v.1 v.2.1) (nI (COM v.1 v.2.1 v.2.2.2.2.2.1)) (ABM v.1 v.2.1 (COM v.1 v.2.1 v.2.2.2.2.2.1) 4) g9 lr bf tn ln nx ct hv v0 k0 v1 k1 oa of mh m1 m2 m3 m4 m5 ss hi sl tx ne th kn ke le sp wr si on tw dn) := by simp only [lwW, lwM, xW_y3, List.append_assoc]; exact hD
  refine topE (v' := nI (ABM v.1 v.2.1 (COM v.1 v.2.1 v.2.2.2.2.2.1) 4)) (q_2) ?_
  refine lv_aload_n hx hb dL_law_1268 rfl (lv_at hl 2 rfl) ?_
  refine kSufI (va_runV (As := []) (rest := [.int (nI (ABM v.1 v.2.1 (COM v.1 v.2.1 v.2.2.2.2.2.1) 4))]) ⟨hx, hb, hml, hown, hts⟩ (c_X9_bitsNext_n mh m1 m2 m3 m4 m5 ss hi sl tx ne th kn ke le sp wr si on tw dn (hMR) (hkey') (PP_r hP) ((pre_D (va_D_swap hD)).weaken (fun _ _ _ h => hLo _ h))) (cwV 0 hts gL_law_X9_bitsNext rfl rfl rfl (by decide +kernel) ⟨(Nat.le_of_ble_eq_true rfl), (Nat.le_of_ble_eq_true rfl)⟩) (preV hC hS hLo (PP_r hP) (ci := 8) (q0 := 0) rfl rfl) rfl rfl hl.1 rfl (lv_room (Nat.le_of_ble_eq_true rfl)) dL_law_1269 ⟨by show c0 + _ ≤ 601024; omega, by show s0 + _ ≤ 7293034; omega⟩) hP hD hS hA (fun _ => rfl) (fun r_6 u_4 H locs q_5 hP hD hS => ?_)
  have hP : PP G (lwW G a v (BEST v.1 v.2.1) (knN v.1 v.2.1 v.2.2.2.2.2.1) (pN v.1 v.2.1) (dN v.1 v.2.1) (nI (COM v.1 v.2.1 v.2.2.2.2.2.1)) (ABM v.1 v.2.1 (COM v.1 v.2.1 v.2.2.2.2.2.1) 4) g9 lr bf tn ln nx ct hv v0 k0 v1 k1 oa of mh m1 m2 m3 m4 m5 ss hi sl tx ne (nI 0) kn ke le sp wr si on tw dn) H := hP
  have hD : va_D (lo G) (lwW G a v (BEST v.1 v.2.1) (knN v.1 v.2.1 v.2.2.2.2.2.1) (pN v.1 v.2.1) (dN v.1 v.2.1) (nI (COM v.1 v.2.1 v.2.2.2.2.2.1)) (ABM v.1 v.2.1 (COM v.1 v.2.1 v.2.2.2.2.2.1) 4) g9 lr bf tn ln nx ct hv v0 k0 v1 k1 oa of mh m1 m2 m3 m4 m5 ss hi sl tx ne (nI 0) kn ke le sp wr si on tw dn) := hD
  refine topE (v' := nI (ABM v.1 v.2.1 (COM v.1 v.2.1 v.2.2.2.2.2.1) 4)) (q_5.trans (heq)) ?_
  refine lv_icmp_eq (tgt := 1768) hx hb dL_law_1272 (by decide) (fun c_7 => ?_) (fun c_7 => ?_)
  · have f_8 := c_7
    exact hk H locs ls hP hD hS (lv_sub hl [0, 1, 2, 3, 4] rfl)
  · have f_9 := c_7
    exact absurd rfl f_9

set_option maxHeartbeats 4000000 in
set_option maxRecDepth 100000 in
theorem lw_20_k {pg : Program} {l : Launch} {ev : Env} {s : State} {m : MethodId} {below : List Frame} {meth : Method} {c : Code} {Q : State → Prop} {G : GT} {bq L : Nat} {xs : Nat → Int32} (hLK : LK pg l s m meth c bq L xs G) (c0 s0 : Nat) (hroom : c0 + 1 ≤ 601024 ∧ s0 + 6 ≤ 7293034) (a : Nat → Nat) (v : SVT) (mo ki : Nat → Nat) (pr df : Nat → Int) (co : Int32) (bi : Nat) (g9 : Nat → Int32) (lr : Nat) (bf : Nat → Int) (tn : Nat → Nat) (ln nx ct : Nat) (hv : Nat → SVT) (v0 : SVT) (k0 : Nat) (v1 : SVT) (k1 : Nat) (oa : Nat) (of : Nat → Int64) (mh m1 m2 m3 m4 m5 : Nat) (ss hi sl : Nat → Int) (tx : Nat → Nat) (ne : Nat → Int) (th : Int32) (kn ke le : Nat) (sp wr si on tw dn : Int32) (i : Nat) (hi5 : i + 5 ≤ L) (hkd : 1 ≤ v.2.2.2.2.2.2.1 ∧ v.2.2.2.2.2.2.1 ≤ 20) (hpi : v.2.2.2.2.2.2.2.1 ≤ 999) (hkey : v.2.2.2.2.2.2.2.1 % v.2.2.2.2.2.2.1 = 0) (hMR : MR ss) (hkey' : (ss 194).toNat % (ss 193).toNat = 0) (heq : nI (264) = nI (264)) {H : Heap} {locs : List Loc} {ls : Array Slot} (hP : PP G (lwW G a v mo ki pr df co bi g9 lr bf tn ln nx ct hv v0 k0 v1 k1 oa of mh m1 m2 m3 m4 m5 ss hi sl tx ne th kn ke le sp wr si on tw dn) H) (hD : va_D (lo G) (lwW G a v mo ki pr df co bi g9 lr bf tn ln nx ct hv v0 k0 v1 k1 oa of mh m1 m2 m3 m4 m5 ss hi sl tx ne th kn ke le sp wr si on tw dn)) (hS : va_S (lo G) s.heap H locs) (hl : lv_has ls 7 [(0, .ref bq), (1, .ref (a 0)), (2, .ref mh), (3, .ref oa), (4, .int (nI (i)))])
    (hk : ∀ (H : Heap) (locs : List Loc) (ls : Array Slot), PP G (lwW G a v mo (fzK ki 4) pr df (iI (-1)) 264 g9 lr bf tn ln nx ct hv v0 k0 v1 k1 oa of mh m1 m2 m3 m4 m5 ss hi sl tx ne (nI 0) kn ke le sp wr si on tw dn) H → va_D (lo G) (lwW G a v mo (fzK ki 4) pr df (iI (-1)) 264 g9 lr bf tn ln nx ct hv v0 k0 v1 k1 oa of mh m1 m2 m3 m4 m5 ss hi sl tx ne (nI 0) kn ke le sp wr si on tw dn) → va_S (lo G) s.heap H locs → lv_has ls 7 [(0, .ref bq), (1, .ref (a 0)), (2, .ref mh), (3, .ref oa), (4, .int (nI (i)))] → W pg l ev room_1 s m #[Value.ref bq] below meth c H locs (c0 + 0) (s0 + 0) Q (F0 m 1768 ls [])) :
    W pg l ev room_1 s m #[Value.ref bq] below meth c H locs c0 s0 Q (F0 m 1264 ls []) := by
  obtain ⟨hx, hb, hml, hown, hts, hX, hbl, hCX, hgB, hfl, hL9⟩ := hLK
  have hC := hCX.1
  have hLo : ∀ q, lo G q → lo G q := fun _ h => h
  have hA : ∀ q, s.heap.size ≤ q → lo G q := fun q h => by show gB G ≤ q; rw [hgB]; exact h
  have hbA : ¬ lo G bq := by show ¬ gB G ≤ bq; rw [hgB]; omega
  refine lv_aload_n hx hb dL_law_1264 rfl (lv_at hl 1 rfl) ?_
  simp only [lwW, lwM, xW_y3, List.append_assoc] at hP hD
  refine kPreI (va_runV (As := []) (rest := []) ⟨hx, hb, hml, hown, hts⟩ (c_X8_bitsNext_k a v mo ki pr df co bi g9 lr bf tn ln (hkd) (hpi) (hkey) (PP_l hP) ((pre_D hD).weaken (fun _ _ _ h => hLo _ h))) (cwV 0 hts gL_law_X8_bitsNext rfl rfl rfl (by decide +kernel) ⟨(Nat.le_of_ble_eq_true rfl), (Nat.le_of_ble_eq_true rfl)⟩) (preV hC hS hLo hP (ci := 7) (q0 := 0) rfl rfl) rfl rfl hl.1 rfl (lv_room (Nat.le_of_ble_eq_true rfl)) dL_law_1265 ⟨by show c0 + _ ≤ 601024; omega, by show s0 + _ ≤ 7293034; omega⟩) hP hD hS hA (fun _ => rfl) (fun r_3 u_1 H locs q_2 hP hD hS => ?_)
  have hP : PP G (lwW G a v mo (fzK ki 4) pr df (iI (-1)) 264 g9 lr bf tn ln nx ct hv v0 k0 v1 k1 oa of mh m1 m2 m3 m4 m5 ss hi sl tx ne th kn ke le sp wr si on tw dn) H := by simp only [lwW, lwM, xW_y3, List.append_assoc]; exact hP
  have hD : va_D (lo G) (lwW G a v mo (fzK ki 4) pr df (iI (-1)) 264 g9 lr bf tn ln nx ct hv v0 k0 v1 k1 oa of mh m1 m2 m3 m4 m5 ss hi sl tx ne th kn ke le sp wr si on tw dn) := by simp only [lwW, lwM, xW_y3, List.append_assoc]; exact hD
  refine topE (v' := nI (264)) (q_2) ?_
  refine lv_aload_n hx hb dL_law_1268 rfl (lv_at hl 2 rfl) ?_
  refine kSufI (va_runV (As := []) (rest := [.int (nI (264))]) ⟨hx, hb, hml, hown, hts⟩ (c_X9_bitsNext_k mh m1 m2 m3 m4 m5 ss hi sl tx ne th kn ke le sp wr si on tw dn (hMR) (hkey') (PP_r hP) ((pre_D (va_D_swap hD)).weaken (fun _ _ _ h => hLo _ h))) (cwV 0 hts gL_law_X9_bitsNext rfl rfl rfl (by decide +kernel) ⟨(Nat.le_of_ble_eq_true rfl), (Nat.le_of_ble_eq_true rfl)⟩) (preV hC hS hLo (PP_r hP) (ci := 8) (q0 := 0) rfl rfl) rfl rfl hl.1 rfl (lv_room (Nat.le_of_ble_eq_true rfl)) dL_law_1269 ⟨by show c0 + _ ≤ 601024; omega, by show s0 + _ ≤ 7293034; omega⟩) hP hD hS hA (fun _ => rfl) (fun r_6 u_4 H locs q_5 hP hD hS => ?_)
  have hP : PP G (lwW G a v mo (fzK ki 4) pr df (iI (-1)) 264 g9 lr bf tn ln nx ct hv v0 k0 v1 k1 oa of mh m1 m2 m3 m4 m5 ss hi sl tx ne (nI 0) kn ke le sp wr si on tw dn) H := hP
  have hD : va_D (lo G) (lwW G a v mo (fzK ki 4) pr df (iI (-1)) 264 g9 lr bf tn ln nx ct hv v0 k0 v1 k1 oa of mh m1 m2 m3 m4 m5 ss hi sl tx ne (nI 0) kn ke le sp wr si on tw dn) := hD
  refine topE (v' := nI (264)) (q_5.trans (heq)) ?_
  refine lv_icmp_eq (tgt := 1768) hx hb dL_law_1272 (by decide) (fun c_7 => ?_) (fun c_7 => ?_)
  · have f_8 := c_7
    exact hk H locs ls hP hD hS (lv_sub hl [0, 1, 2, 3, 4] rfl)
  · have f_9 := c_7
    exact absurd rfl f_9

set_option maxHeartbeats 4000000 in
set_option maxRecDepth 100000 in
theorem lw_21_ok {pg : Program} {l : Launch} {ev : Env} {s : State} {m : MethodId} {below : List Frame} {meth : Method} {c : Code} {Q : State → Prop} {G : GT} {bq L : Nat} {xs : Nat → Int32} (hLK : LK pg l s m meth c bq L xs G) (c0 s0 : Nat) (hroom : c0 + 1 ≤ 601024 ∧ s0 + 6 ≤ 7293034) (a : Nat → Nat) (v : SVT) (mo ki : Nat → Nat) (pr df : Nat → Int) (co : Int32) (bi : Nat) (g9 : Nat → Int32) (lr : Nat) (bf : Nat → Int) (tn : Nat → Nat) (ln nx ct : Nat) (hv : Nat → SVT) (v0 : SVT) (k0 : Nat) (v1 : SVT) (k1 : Nat) (oa : Nat) (of : Nat → Int64) (mh m1 m2 m3 m4 m5 : Nat) (ss hi sl : Nat → Int) (tx : Nat → Nat) (ne : Nat → Int) (th : Int32) (kn ke le : Nat) (sp wr si on tw dn : Int32) (i : Nat) (hi5 : i + 5 ≤ L) (heq : iI (ss 194) = nI (v.2.2.2.2.2.2.2.1)) {H : Heap} {locs : List Loc} {ls : Array Slot} (hP : PP G (lwW G a v mo ki pr df co bi g9 lr bf tn ln nx ct hv v0 k0 v1 k1 oa of mh m1 m2 m3 m4 m5 ss hi sl tx ne th kn ke le sp wr si on tw dn) H) (hD : va_D (lo G) (lwW G a v mo ki pr df co bi g9 lr bf tn ln nx ct hv v0 k0 v1 k1 oa of mh m1 m2 m3 m4 m5 ss hi sl tx ne th kn ke le sp wr si on tw dn)) (hS : va_S (lo G) s.heap H locs) (hl : lv_has ls 7 [(0, .ref bq), (1, .ref (a 0)), (2, .ref mh), (3, .ref oa), (4, .int (nI (i)))])
    (hk : ∀ (H : Heap) (locs : List Loc) (ls : Array Slot), PP G (lwW G a v mo ki pr df co bi g9 lr bf tn ln nx ct hv v0 k0 v1 k1 oa of mh m1 m2 m3 m4 m5 ss hi sl tx ne (nI 0) kn ke le sp wr si on tw dn) H → va_D (lo G) (lwW G a v mo ki pr df co bi g9 lr bf tn ln nx ct hv v0 k0 v1 k1 oa of mh m1 m2 m3 m4 m5 ss hi sl tx ne (nI 0) kn ke le sp wr si on tw dn) → va_S (lo G) s.heap H locs → lv_has ls 7 [(0, .ref bq), (1, .ref (a 0)), (2, .ref mh), (3, .ref oa), (4, .int (nI (i)))] → W pg l ev room_1 s m #[Value.ref bq] below meth c H locs (c0 + 0) (s0 + 0) Q (F0 m 1768 ls [])) :
    W pg l ev room_1 s m #[Value.ref bq] below meth c H locs c0 s0 Q (F0 m 1277 ls []) := by
  obtain ⟨hx, hb, hml, hown, hts, hX, hbl, hCX, hgB, hfl, hL9⟩ := hLK
  have hC := hCX.1
  have hLo : ∀ q, lo G q → lo G q := fun _ h => h
  have hA : ∀ q, s.heap.size ≤ q → lo G q := fun q h => by show gB G ≤ q; rw [hgB]; exact h
  have hbA : ¬ lo G bq := by show ¬ gB G ≤ bq; rw [hgB]; omega
  refine lv_aload_n hx hb dL_law_1277 rfl (lv_at hl 1 rfl) ?_
  refine kPi (va_runV (As := []) (rest := []) ⟨hx, hb, hml, hown, hts⟩ (c_X8_pictureCount a v (xW_now (PP_l (PP_l hP)))) (cwV 0 hts gL_law_X8_pictureCount rfl rfl rfl (by decide +kernel) ⟨(Nat.le_of_ble_eq_true rfl), (Nat.le_of_ble_eq_true rfl)⟩) (preV hC hS hLo hP (ci := 7) (q0 := 0) rfl rfl) rfl rfl hl.1 rfl (lv_room (Nat.le_of_ble_eq_true rfl)) dL_law_1278 ⟨by show c0 + _ ≤ 601024; omega, by show s0 + _ ≤ 7293034; omega⟩) hS (fun locs hS => ?_)
  refine lv_aload_n hx hb dL_law_1281 rfl (lv_at hl 2 rfl) ?_
  refine kSufI (va_runV (As := []) (rest := [.int (nI (v.2.2.2.2.2.2.2.1))]) ⟨hx, hb, hml, hown, hts⟩ (c_X9_pictureCount mh m1 m2 m3 m4 m5 ss hi sl tx ne th kn ke le sp wr si on tw dn (PP_r hP) ((pre_D (va_D_swap hD)).weaken (fun _ _ _ h => hLo _ h))) (cwV 0 hts gL_law_X9_pictureCount rfl rfl rfl (by decide +kernel) ⟨(Nat.le_of_ble_eq_true rfl), (Nat.le_of_ble_eq_true rfl)⟩) (preV hC hS hLo (PP_r hP) (ci := 8) (q0 := 0) rfl rfl) rfl rfl hl.1 rfl (lv_room (Nat.le_of_ble_eq_true rfl)) dL_law_1282 ⟨by show c0 + _ ≤ 601024; omega, by show s0 + _ ≤ 7293034; omega⟩) hP hD hS hA (fun _ => rfl) (fun r_3 u_1 H locs q_2 hP hD hS => ?_)
  have hP : PP G (lwW G a v mo ki pr df co bi g9 lr bf tn ln nx ct hv v0 k0 v1 k1 oa of mh m1 m2 m3 m4 m5 ss hi sl tx ne (nI 0) kn ke le sp wr si on tw dn) H := hP
  have hD : va_D (lo G) (lwW G a v mo ki pr df co bi g9 lr bf tn ln nx ct hv v0 k0 v1 k1 oa of mh m1 m2 m3 m4 m5 ss hi sl tx ne (nI 0) kn ke le sp wr si on tw dn) := hD
  refine topE (v' := nI (v.2.2.2.2.2.2.2.1)) (q_2.trans (heq)) ?_
  refine lv_icmp_eq (tgt := 1768) hx hb dL_law_1285 (by decide) (fun c_4 => ?_) (fun c_4 => ?_)
  · have f_5 := c_4
    exact hk H locs ls hP hD hS (lv_sub hl [0, 1, 2, 3, 4] rfl)
  · have f_6 := c_4
    exact absurd rfl f_6

set_option maxHeartbeats 4000000 in
set_option maxRecDepth 100000 in
theorem lw_22_ok {pg : Program} {l : Launch} {ev : Env} {s : State} {m : MethodId} {below : List Frame} {meth : Method} {c : Code} {Q : State → Prop} {G : GT} {bq L : Nat} {xs : Nat → Int32} (hLK : LK pg l s m meth c bq L xs G) (c0 s0 : Nat) (hroom : c0 + 1 ≤ 601024 ∧ s0 + 6 ≤ 7293034) (a : Nat → Nat) (v : SVT) (mo ki : Nat → Nat) (pr df : Nat → Int) (co : Int32) (bi : Nat) (g9 : Nat → Int32) (lr : Nat) (bf : Nat → Int) (tn : Nat → Nat) (ln nx ct : Nat) (hv : Nat → SVT) (v0 : SVT) (k0 : Nat) (v1 : SVT) (k1 : Nat) (oa : Nat) (of : Nat → Int64) (mh m1 m2 m3 m4 m5 : Nat) (ss hi sl : Nat → Int) (tx : Nat → Nat) (ne : Nat → Int) (th : Int32) (kn ke le : Nat) (sp wr si on tw dn : Int32) (i : Nat) (hi5 : i + 5 ≤ L) (heq : iI (ss 195) = nI (v.2.2.2.2.2.2.2.2.1)) {H : Heap} {locs : List Loc} {ls : Array Slot} (hP : PP G (lwW G a v mo ki pr df co bi g9 lr bf tn ln nx ct hv v0 k0 v1 k1 oa of mh m1 m2 m3 m4 m5 ss hi sl tx ne th kn ke le sp wr si on tw dn) H) (hD : va_D (lo G) (lwW G a v mo ki pr df co bi g9 lr bf tn ln nx ct hv v0 k0 v1 k1 oa of mh m1 m2 m3 m4 m5 ss hi sl tx ne th kn ke le sp wr si on tw dn)) (hS : va_S (lo G) s.heap H locs) (hl : lv_has ls 7 [(0, .ref bq), (1, .ref (a 0)), (2, .ref mh), (3, .ref oa), (4, .int (nI (i)))])
    (hk : ∀ (H : Heap) (locs : List Loc) (ls : Array Slot), PP G (lwW G a v mo ki pr df co bi g9 lr bf tn ln nx ct hv v0 k0 v1 k1 oa of mh m1 m2 m3 m4 m5 ss hi sl tx ne (nI 0) kn ke le sp wr si on tw dn) H → va_D (lo G) (lwW G a v mo ki pr df co bi g9 lr bf tn ln nx ct hv v0 k0 v1 k1 oa of mh m1 m2 m3 m4 m5 ss hi sl tx ne (nI 0) kn ke le sp wr si on tw dn) → va_S (lo G) s.heap H locs → lv_has ls 7 [(0, .ref bq), (1, .ref (a 0)), (2, .ref mh), (3, .ref oa), (4, .int (nI (i)))] → W pg l ev room_1 s m #[Value.ref bq] below meth c H locs (c0 + 0) (s0 + 0) Q (F0 m 1768 ls [])) :
    W pg l ev room_1 s m #[Value.ref bq] below meth c H locs c0 s0 Q (F0 m 1290 ls []) := by
  obtain ⟨hx, hb, hml, hown, hts, hX, hbl, hCX, hgB, hfl, hL9⟩ := hLK
  have hC := hCX.1
  have hLo : ∀ q, lo G q → lo G q := fun _ h => h
  have hA : ∀ q, s.heap.size ≤ q → lo G q := fun q h => by show gB G ≤ q; rw [hgB]; exact h
  have hbA : ¬ lo G bq := by show ¬ gB G ≤ bq; rw [hgB]; omega
  refine lv_aload_n hx hb dL_law_1290 rfl (lv_at hl 1 rfl) ?_
  refine kPi (va_runV (As := []) (rest := []) ⟨hx, hb, hml, hown, hts⟩ (c_X8_lostCount a v (xW_now (PP_l (PP_l hP)))) (cwV 0 hts gL_law_X8_lostCount rfl rfl rfl (by decide +kernel) ⟨(Nat.le_of_ble_eq_true rfl), (Nat.le_of_ble_eq_true rfl)⟩) (preV hC hS hLo hP (ci := 7) (q0 := 0) rfl rfl) rfl rfl hl.1 rfl (lv_room (Nat.le_of_ble_eq_true rfl)) dL_law_1291 ⟨by show c0 + _ ≤ 601024; omega, by show s0 + _ ≤ 7293034; omega⟩) hS (fun locs hS => ?_)
  refine lv_aload_n hx hb dL_law_1294 rfl (lv_at hl 2 rfl) ?_
  refine kSufI (va_runV (As := []) (rest := [.int (nI (v.2.2.2.2.2.2.2.2.1))]) ⟨hx, hb, hml, hown, hts⟩ (c_X9_lostCount mh m1 m2 m3 m4 m5 ss hi sl tx ne th kn ke le sp wr si on tw dn (PP_r hP) ((pre_D (va_D_swap hD)).weaken (fun _ _ _ h => hLo _ h))) (cwV 0 hts gL_law_X9_lostCount rfl rfl rfl (by decide +kernel) ⟨(Nat.le_of_ble_eq_true rfl), (Nat.le_of_ble_eq_true rfl)⟩) (preV hC hS hLo (PP_r hP) (ci := 8) (q0 := 0) rfl rfl) rfl rfl hl.1 rfl (lv_room (Nat.le_of_ble_eq_true rfl)) dL_law_1295 ⟨by show c0 + _ ≤ 601024; omega, by show s0 + _ ≤ 7293034; omega⟩) hP hD hS hA (fun _ => rfl) (fun r_3 u_1 H locs q_2 hP hD hS => ?_)
  have hP : PP G (lwW G a v mo ki pr df co bi g9 lr bf tn ln nx ct hv v0 k0 v1 k1 oa of mh m1 m2 m3 m4 m5 ss hi sl tx ne (nI 0) kn ke le sp wr si on tw dn) H := hP
  have hD : va_D (lo G) (lwW G a v mo ki pr df co bi g9 lr bf tn ln nx ct hv v0 k0 v1 k1 oa of mh m1 m2 m3 m4 m5 ss hi sl tx ne (nI 0) kn ke le sp wr si on tw dn) := hD
  refine topE (v' := nI (v.2.2.2.2.2.2.2.2.1)) (q_2.trans (heq)) ?_
  refine lv_icmp_eq (tgt := 1768) hx hb dL_law_1298 (by decide) (fun c_4 => ?_) (fun c_4 => ?_)
  · have f_5 := c_4
    exact hk H locs ls hP hD hS (lv_sub hl [0, 1, 2, 3, 4] rfl)
  · have f_6 := c_4
    exact absurd rfl f_6

set_option maxHeartbeats 4000000 in
set_option maxRecDepth 100000 in
theorem lw_23_ok {pg : Program} {l : Launch} {ev : Env} {s : State} {m : MethodId} {below : List Frame} {meth : Method} {c : Code} {Q : State → Prop} {G : GT} {bq L : Nat} {xs : Nat → Int32} (hLK : LK pg l s m meth c bq L xs G) (c0 s0 : Nat) (hroom : c0 + 1 ≤ 601024 ∧ s0 + 6 ≤ 7293034) (a : Nat → Nat) (v : SVT) (mo ki : Nat → Nat) (pr df : Nat → Int) (co : Int32) (bi : Nat) (g9 : Nat → Int32) (lr : Nat) (bf : Nat → Int) (tn : Nat → Nat) (ln nx ct : Nat) (hv : Nat → SVT) (v0 : SVT) (k0 : Nat) (v1 : SVT) (k1 : Nat) (oa : Nat) (of : Nat → Int64) (mh m1 m2 m3 m4 m5 : Nat) (ss hi sl : Nat → Int) (tx : Nat → Nat) (ne : Nat → Int) (th : Int32) (kn ke le : Nat) (sp wr si on tw dn : Int32) (i : Nat) (hi5 : i + 5 ≤ L) (heq : iI (ss 196) = nI (v.2.2.2.2.2.2.2.2.2)) {H : Heap} {locs : List Loc} {ls : Array Slot} (hP : PP G (lwW G a v mo ki pr df co bi g9 lr bf tn ln nx ct hv v0 k0 v1 k1 oa of mh m1 m2 m3 m4 m5 ss hi sl tx ne th kn ke le sp wr si on tw dn) H) (hD : va_D (lo G) (lwW G a v mo ki pr df co bi g9 lr bf tn ln nx ct hv v0 k0 v1 k1 oa of mh m1 m2 m3 m4 m5 ss hi sl tx ne th kn ke le sp wr si on tw dn)) (hS : va_S (lo G) s.heap H locs) (hl : lv_has ls 7 [(0, .ref bq), (1, .ref (a 0)), (2, .ref mh), (3, .ref oa), (4, .int (nI (i)))])
    (hk : ∀ (H : Heap) (locs : List Loc) (ls : Array Slot), PP G (lwW G a v mo ki pr df co bi g9 lr bf tn ln nx ct hv v0 k0 v1 k1 oa of mh m1 m2 m3 m4 m5 ss hi sl tx ne (nI 0) kn ke le sp wr si on tw dn) H → va_D (lo G) (lwW G a v mo ki pr df co bi g9 lr bf tn ln nx ct hv v0 k0 v1 k1 oa of mh m1 m2 m3 m4 m5 ss hi sl tx ne (nI 0) kn ke le sp wr si on tw dn) → va_S (lo G) s.heap H locs → lv_has ls 7 [(0, .ref bq), (1, .ref (a 0)), (2, .ref mh), (3, .ref oa), (4, .int (nI (i)))] → W pg l ev room_1 s m #[Value.ref bq] below meth c H locs (c0 + 0) (s0 + 0) Q (F0 m 1768 ls [])) :
    W pg l ev room_1 s m #[Value.ref bq] below meth c H locs c0 s0 Q (F0 m 1303 ls []) := by
  obtain ⟨hx, hb, hml, hown, hts, hX, hbl, hCX, hgB, hfl, hL9⟩ := hLK
  have hC := hCX.1
  have hLo : ∀ q, lo G q → lo G q := fun _ h => h
  have hA : ∀ q, s.heap.size ≤ q → lo G q := fun q h => by show gB G ≤ q; rw [hgB]; exact h
  have hbA : ¬ lo G bq := by show ¬ gB G ≤ bq; rw [hgB]; omega
  refine lv_aload_n hx hb dL_law_1303 rfl (lv_at hl 1 rfl) ?_
  refine kPi (va_runV (As := []) (rest := []) ⟨hx, hb, hml, hown, hts⟩ (c_X8_bitCount a v (xW_now (PP_l (PP_l hP)))) (cwV 0 hts gL_law_X8_bitCount rfl rfl rfl (by decide +kernel) ⟨(Nat.le_of_ble_eq_true rfl), (Nat.le_of_ble_eq_true rfl)⟩) (preV hC hS hLo hP (ci := 7) (q0 := 0) rfl rfl) rfl rfl hl.1 rfl (lv_room (Nat.le_of_ble_eq_true rfl)) dL_law_1304 ⟨by show c0 + _ ≤ 601024; omega, by show s0 + _ ≤ 7293034; omega⟩) hS (fun locs hS => ?_)
  refine lv_aload_n hx hb dL_law_1307 rfl (lv_at hl 2 rfl) ?_
  refine kSufI (va_runV (As := []) (rest := [.int (nI (v.2.2.2.2.2.2.2.2.2))]) ⟨hx, hb, hml, hown, hts⟩ (c_X9_bitCount mh m1 m2 m3 m4 m5 ss hi sl tx ne th kn ke le sp wr si on tw dn (PP_r hP) ((pre_D (va_D_swap hD)).weaken (fun _ _ _ h => hLo _ h))) (cwV 0 hts gL_law_X9_bitCount rfl rfl rfl (by decide +kernel) ⟨(Nat.le_of_ble_eq_true rfl), (Nat.le_of_ble_eq_true rfl)⟩) (preV hC hS hLo (PP_r hP) (ci := 8) (q0 := 0) rfl rfl) rfl rfl hl.1 rfl (lv_room (Nat.le_of_ble_eq_true rfl)) dL_law_1308 ⟨by show c0 + _ ≤ 601024; omega, by show s0 + _ ≤ 7293034; omega⟩) hP hD hS hA (fun _ => rfl) (fun r_3 u_1 H locs q_2 hP hD hS => ?_)
  have hP : PP G (lwW G a v mo ki pr df co bi g9 lr bf tn ln nx ct hv v0 k0 v1 k1 oa of mh m1 m2 m3 m4 m5 ss hi sl tx ne (nI 0) kn ke le sp wr si on tw dn) H := hP
  have hD : va_D (lo G) (lwW G a v mo ki pr df co bi g9 lr bf tn ln nx ct hv v0 k0 v1 k1 oa of mh m1 m2 m3 m4 m5 ss hi sl tx ne (nI 0) kn ke le sp wr si on tw dn) := hD
  refine topE (v' := nI (v.2.2.2.2.2.2.2.2.2)) (q_2.trans (heq)) ?_
  refine lv_icmp_eq (tgt := 1768) hx hb dL_law_1311 (by decide) (fun c_4 => ?_) (fun c_4 => ?_)
  · have f_5 := c_4
    exact hk H locs ls hP hD hS (lv_sub hl [0, 1, 2, 3, 4] rfl)
  · have f_6 := c_4
    exact absurd rfl f_6

set_option maxHeartbeats 4000000 in
set_option maxRecDepth 100000 in
theorem lw_24_ok {pg : Program} {l : Launch} {ev : Env} {s : State} {m : MethodId} {below : List Frame} {meth : Method} {c : Code} {Q : State → Prop} {G : GT} {bq L : Nat} {xs : Nat → Int32} (hLK : LK pg l s m meth c bq L xs G) (c0 s0 : Nat) (hroom : c0 + 1 ≤ 601024 ∧ s0 + 6 ≤ 7293034) (a : Nat → Nat) (v : SVT) (mo ki : Nat → Nat) (pr df : Nat → Int) (co : Int32) (bi : Nat) (g9 : Nat → Int32) (lr : Nat) (bf : Nat → Int) (tn : Nat → Nat) (ln nx ct : Nat) (hv : Nat → SVT) (v0 : SVT) (k0 : Nat) (v1 : SVT) (k1 : Nat) (oa : Nat) (of : Nat → Int64) (mh m1 m2 m3 m4 m5 : Nat) (ss hi sl : Nat → Int) (tx : Nat → Nat) (ne : Nat → Int) (th : Int32) (kn ke le : Nat) (sp wr si on tw dn : Int32) (i : Nat) (b : Nat) (hi5 : i + 5 ≤ L) (ha1 : xs (i + 1) = nI (b)) (hb4 : b < 4) (hkd : 1 ≤ v.2.2.2.2.2.2.1 ∧ v.2.2.2.2.2.2.1 ≤ 20) (hpi : v.2.2.2.2.2.2.2.1 ≤ 999) (heq : iI (ss (197 + b) - 1) = iI (if v.2.2.2.2.2.2.2.1 = 0 then -1 else (v.2.2.2.1 b : Int))) {H : Heap} {locs : List Loc} {ls : Array Slot} (hP : PP G (lwW G a v mo ki pr df co bi g9 lr bf tn ln nx ct hv v0 k0 v1 k1 oa of mh m1 m2 m3 m4 m5 ss hi sl tx ne th kn ke le sp wr si on tw dn) H) (hD : va_D (lo G) (lwW G a v mo ki pr df co bi g9 lr bf tn ln nx ct hv v0 k0 v1 k1 oa of mh m1 m2 m3 m4 m5 ss hi sl tx ne th kn ke le sp wr si on tw dn)) (hS : va_S (lo G) s.heap H locs) (hl : lv_has ls 7 [(0, .ref bq), (1, .ref (a 0)), (2, .ref mh), (3, .ref oa), (4, .int (nI (i)))])
    (hk : ∀ (H : Heap) (locs : List Loc) (ls : Array Slot), PP G (lwW G a v mo ki pr df co bi g9 lr bf tn ln nx ct hv v0 k0 v1 k1 oa (vp_updL of 0 ((iI (if v.2.2.2.2.2.2.2.1 = 0 then -1 else (v.2.2.2.1 b : Int))).toInt64)) mh m1 m2 m3 m4 m5 ss hi sl tx ne (nI 0) kn ke le sp wr si on tw dn) H → va_D (lo G) (lwW G a v mo ki pr df co bi g9 lr bf tn ln nx ct hv v0 k0 v1 k1 oa (vp_updL of 0 ((iI (if v.2.2.2.2.2.2.2.1 = 0 then -1 else (v.2.2.2.1 b : Int))).toInt64)) mh m1 m2 m3 m4 m5 ss hi sl tx ne (nI 0) kn ke le sp wr si on tw dn) → va_S (lo G) s.heap H locs → lv_has ls 7 [(0, .ref bq), (1, .ref (a 0)), (2, .ref mh), (3, .ref oa), (4, .int (nI (i)))] → W pg l ev room_1 s m #[Value.ref bq] below meth c H locs (c0 + 0) (s0 + 0) Q (F0 m 1768 ls [])) :
    W pg l ev room_1 s m #[Value.ref bq] below meth c H locs c0 s0 Q (F0 m 1316 ls []) := by
  obtain ⟨hx, hb, hml, hown, hts, hX, hbl, hCX, hgB, hfl, hL9⟩ := hLK
  have hC := hCX.1
  have hLo : ∀ q, lo G q → lo G q := fun _ h => h
  have hA : ∀ q, s.heap.size ≤ q → lo G q := fun q h => by show gB G ≤ q; rw [hgB]; exact h
  have hbA : ¬ lo G bq := by show ¬ gB G ≤ bq; rw [hgB]; omega
  refine lv_aload_n hx hb dL_law_1316 rfl (lv_at hl 1 rfl) ?_
  refine lv_aload_n hx hb dL_law_1317 rfl (lv_at hl 0 rfl) ?_
  refine lv_iload hx hb dL_law_1318 (lv_at hl 4 rfl) ?_
  refine lv_iconst (v := nI (1)) hx hb dL_law_1320 (by decide) ?_
  refine gAdd (z := nI (i + 1)) hx hb dL_law_1321 (nI_add _ _) ?_
  refine gScr (i := i + 1) (v := nI (b)) hx hb hX hbl hbA hS (by omega) hL9 ha1 dL_law_1322 ?_
  refine lv_aload_n hx hb dL_law_1323 rfl (lv_at hl 3 rfl) ?_
  refine kPreI (vx_runSW (As := [.ref (a 0), .int (nI (b)), .ref oa]) (rest := []) ⟨hx, hb, hml, hown, hts⟩ (c_L_lastKind a v mo ki pr df co bi g9 lr bf tn ln nx ct hv v0 k0 v1 k1 oa of b (hb4) (hkd) (hpi) (PP_l hP) ((pre_D hD).weaken (fun _ _ _ h => hLo _ h))) (vx_cwSW 3 hts gL_law_L_lastKind rfl rfl rfl (by decide +kernel) ⟨(Nat.le_of_ble_eq_true rfl), (Nat.le_of_ble_eq_true rfl)⟩) (preS hC hS hLo) rfl rfl hl.1 rfl (lv_room (Nat.le_of_ble_eq_true rfl)) dL_law_1324 ⟨by show c0 + _ ≤ 601024; omega, by show s0 + _ ≤ 7293034; omega⟩) hP hD hS hA (fun _ => lw_fst) (fun r_3 u_1 H locs q_2 hP hD hS => ?_)
  have hP : PP G (lwW G a v mo ki pr df co bi g9 lr bf tn ln nx ct hv v0 k0 v1 k1 oa (vp_updL of 0 ((iI (if v.2.2.2.2.2.2.2.1 = 0 then -1 else (v.2.2.2.1 b : Int))).toInt64)) mh m1 m2 m3 m4 m5 ss hi sl tx ne th kn ke le sp wr si on tw dn) H := hP
  have hD : va_D (lo G) (lwW G a v mo ki pr df co bi g9 lr bf tn ln nx ct hv v0 k0 v1 k1 oa (vp_updL of 0 ((iI (if v.2.2.2.2.2.2.2.1 = 0 then -1 else (v.2.2.2.1 b : Int))).toInt64)) mh m1 m2 m3 m4 m5 ss hi sl tx ne th kn ke le sp wr si on tw dn) := hD
  refine topE (v' := nI (0)) (q_2) ?_
  refine lv_istore (lv' := [(5, .int (nI (0))), (0, .ref bq), (1, .ref (a 0)), (2, .ref mh), (3, .ref oa), (4, .int (nI (i)))]) hx hb dL_law_1327 hl (by decide) rfl (fun ls hl => ?_)
  refine lv_aload_n hx hb dL_law_1329 rfl (lv_at hl 3 rfl) ?_
  refine lv_aload_n hx hb dL_law_1330 rfl (lv_at hl 1 rfl) ?_
  refine lv_iload hx hb dL_law_1331 (lv_at hl 5 rfl) ?_
  refine lv_iconst (v := nI (1)) hx hb dL_law_1333 (by decide) ?_
  refine gAdd (z := nI (i + 1)) hx hb dL_law_1334 (nI_add _ _) ?_
  refine gScr (i := i + 1) (v := nI (b)) hx hb hX hbl hbA hS (by omega) hL9 ha1 dL_law_1335 ?_
  refine kSufI (va_runV (As := [.int (nI (b))]) (rest := []) ⟨hx, hb, hml, hown, hts⟩ (c_X9_lastKind mh m1 m2 m3 m4 m5 ss hi sl tx ne th kn ke le sp wr si on tw dn b (hb4) (PP_r hP) ((pre_D (va_D_swap hD)).weaken (fun _ _ _ h => hLo _ h))) (cwV 1 hts gL_law_X9_lastKind rfl rfl rfl (by decide +kernel) ⟨(Nat.le_of_ble_eq_true rfl), (Nat.le_of_ble_eq_true rfl)⟩) (preV hC hS hLo (PP_r hP) (ci := 8) (q0 := 0) rfl rfl) rfl rfl hl.1 rfl (lv_room (Nat.le_of_ble_eq_true rfl)) dL_law_1336 ⟨by show c0 + _ ≤ 601024; omega, by show s0 + _ ≤ 7293034; omega⟩) hP hD hS hA (fun _ => rfl) (fun r_6 u_4 H locs q_5 hP hD hS => ?_)
  have hP : PP G (lwW G a v mo ki pr df co bi g9 lr bf tn ln nx ct hv v0 k0 v1 k1 oa (vp_updL of 0 ((iI (if v.2.2.2.2.2.2.2.1 = 0 then -1 else (v.2.2.2.1 b : Int))).toInt64)) mh m1 m2 m3 m4 m5 ss hi sl tx ne (nI 0) kn ke le sp wr si on tw dn) H := hP
  have hD : va_D (lo G) (lwW G a v mo ki pr df co bi g9 lr bf tn ln nx ct hv v0 k0 v1 k1 oa (vp_updL of 0 ((iI (if v.2.2.2.2.2.2.2.1 = 0 then -1 else (v.2.2.2.1 b : Int))).toInt64)) mh m1 m2 m3 m4 m5 ss hi sl tx ne (nI 0) kn ke le sp wr si on tw dn) := hD
  refine topE (v' := iI (if v.2.2.2.2.2.2.2.1 = 0 then -1 else (v.2.2.2.1 b : Int))) (q_5.trans (heq)) ?_
  refine lv_istore (lv' := [(6, .int (iI (if v.2.2.2.2.2.2.2.1 = 0 then -1 else (v.2.2.2.1 b : Int)))), (5, .int (nI (0))), (0, .ref bq), (1, .ref (a 0)), (2, .ref mh), (3, .ref oa), (4, .int (nI (i)))]) hx hb dL_law_1339 hl (by decide) rfl (fun ls hl => ?_)
  refine lv_aload_n hx hb dL_law_1341 rfl (lv_at hl 4 rfl) ?_
  refine kPi (va_runV (As := []) (rest := []) ⟨hx, hb, hml, hown, hts⟩ (c_X9_thrown mh m1 m2 m3 m4 m5 ss hi sl tx ne (nI (0)) kn ke le sp wr si on tw dn (PP_r hP)) (cwV 0 hts gL_law_X9_thrown rfl rfl rfl (by decide +kernel) ⟨(Nat.le_of_ble_eq_true rfl), (Nat.le_of_ble_eq_true rfl)⟩) (preV hC hS hLo (PP_r hP) (ci := 8) (q0 := 0) rfl rfl) rfl rfl hl.1 rfl (lv_room (Nat.le_of_ble_eq_true rfl)) dL_law_1342 ⟨by show c0 + _ ≤ 601024; omega, by show s0 + _ ≤ 7293034; omega⟩) hS (fun locs hS => ?_)
  refine lv_iload hx hb dL_law_1345 (lv_at hl 1 rfl) ?_
  refine lv_icmp_eq (tgt := 1352) hx hb dL_law_1347 (by decide) (fun c_7 => ?_) (fun c_7 => ?_)
  · have f_8 := c_7
    refine lv_iload hx hb dL_law_1352 (lv_at hl 1 rfl) ?_
    refine lv_if_ne (tgt := 1369) hx hb dL_law_1354 (by decide) (fun c_9 => ?_) (fun c_9 => ?_)
    · have f_10 : ¬ (0 : Int) = (0 : Int) := fun z => c_9 ((c_eq (nI_toInt (n := 0) (by omega)) rfl).mpr z)
      exfalso; omega
    · have f_11 : (0 : Int) = (0 : Int) := (c_eq (nI_toInt (n := 0) (by omega)) rfl).mp c_9
      refine lv_aload_n hx hb dL_law_1357 rfl (lv_at hl 5 rfl) ?_
      refine lv_iconst (v := nI (0)) hx hb dL_law_1358 (by decide) ?_
      refine gLald (j := 0) hx hb hC.K (PP_r (PP_l hP)) 0 4 rfl rfl rfl (by decide) (by decide) dL_law_1359 ?_
      refine W.eq (g2 := F0 m 1360 ls [.long ((iI (if v.2.2.2.2.2.2.2.1 = 0 then -1 else (v.2.2.2.1 b : Int))).toInt64)]) rfl ?_
      refine lv_iload hx hb dL_law_1360 (lv_at hl 0 rfl) ?_
      refine lv_i2l (v := (iI (if v.2.2.2.2.2.2.2.1 = 0 then -1 else (v.2.2.2.1 b : Int))).toInt64) hx hb dL_law_1362 (rfl) ?_
      refine W.lcmp hx hb dL_law_1363 ?_
      refine topE (v' := nI (0)) (lg_self _) ?_
      refine lv_if_eq (tgt := 1369) hx hb dL_law_1364 (by decide) (fun c_12 => ?_) (fun c_12 => ?_)
      · have f_13 : (0 : Int) = (0 : Int) := (c_eq (nI_toInt (n := 0) (by omega)) rfl).mp c_12
        refine lv_goto (tgt := 1768) hx hb dL_law_1369 (by decide) ?_
        exact hk H locs ls hP hD hS (lv_sub hl [2, 3, 4, 5, 6] rfl)
      · have f_14 : ¬ (0 : Int) = (0 : Int) := fun z => c_12 ((c_eq (nI_toInt (n := 0) (by omega)) rfl).mpr z)
        exfalso; omega
  · have f_15 := c_7
    exact absurd rfl f_15

set_option maxHeartbeats 4000000 in
set_option maxRecDepth 100000 in
theorem lw_24_x1 {pg : Program} {l : Launch} {ev : Env} {s : State} {m : MethodId} {below : List Frame} {meth : Method} {c : Code} {Q : State → Prop} {G : GT} {bq L : Nat} {xs : Nat → Int32} (hLK : LK pg l s m meth c bq L xs G) (c0 s0 : Nat) (hroom : c0 + 1 ≤ 601024 ∧ s0 + 6 ≤ 7293034) (a : Nat → Nat) (v : SVT) (mo ki : Nat → Nat) (pr df : Nat → Int) (co : Int32) (bi : Nat) (g9 : Nat → Int32) (lr : Nat) (bf : Nat → Int) (tn : Nat → Nat) (ln nx ct : Nat) (hv : Nat → SVT) (v0 : SVT) (k0 : Nat) (v1 : SVT) (k1 : Nat) (oa : Nat) (of : Nat → Int64) (mh m1 m2 m3 m4 m5 : Nat) (ss hi sl : Nat → Int) (tx : Nat → Nat) (ne : Nat → Int) (th : Int32) (kn ke le : Nat) (sp wr si on tw dn : Int32) (i : Nat) (p : Int32) (hi5 : i + 5 ≤ L) (ha1 : xs (i + 1) = p) (hbad : p.toInt < 0 ∨ 4 ≤ p.toInt) {H : Heap} {locs : List Loc} {ls : Array Slot} (hP : PP G (lwW G a v mo ki pr df co bi g9 lr bf tn ln nx ct hv v0 k0 v1 k1 oa of mh m1 m2 m3 m4 m5 ss hi sl tx ne th kn ke le sp wr si on tw dn) H) (hD : va_D (lo G) (lwW G a v mo ki pr df co bi g9 lr bf tn ln nx ct hv v0 k0 v1 k1 oa of mh m1 m2 m3 m4 m5 ss hi sl tx ne th kn ke le sp wr si on tw dn)) (hS : va_S (lo G) s.heap H locs) (hl : lv_has ls 7 [(0, .ref bq), (1, .ref (a 0)), (2, .ref mh), (3, .ref oa), (4, .int (nI (i)))])
    (hk : ∀ (H : Heap) (locs : List Loc) (ls : Array Slot), PP G (lwW G a v mo ki pr df co bi g9 lr bf tn ln nx ct hv v0 k0 v1 k1 oa of mh m1 m2 m3 m4 m5 ss hi sl tx ne (nI 1) kn ke le sp wr si on tw dn) H → va_D (lo G) (lwW G a v mo ki pr df co bi g9 lr bf tn ln nx ct hv v0 k0 v1 k1 oa of mh m1 m2 m3 m4 m5 ss hi sl tx ne (nI 1) kn ke le sp wr si on tw dn) → va_S (lo G) s.heap H locs → lv_has ls 7 [(0, .ref bq), (1, .ref (a 0)), (2, .ref mh), (3, .ref oa), (4, .int (nI (i)))] → W pg l ev room_1 s m #[Value.ref bq] below meth c H locs (c0 + 1) (s0 + 6) Q (F0 m 1768 ls [])) :
    W pg l ev room_1 s m #[Value.ref bq] below meth c H locs c0 s0 Q (F0 m 1316 ls []) := by
  obtain ⟨hx, hb, hml, hown, hts, hX, hbl, hCX, hgB, hfl, hL9⟩ := hLK
  have hC := hCX.1
  have hLo : ∀ q, lo G q → lo G q := fun _ h => h
  have hA : ∀ q, s.heap.size ≤ q → lo G q := fun q h => by show gB G ≤ q; rw [hgB]; exact h
  have hbA : ¬ lo G bq := by show ¬ gB G ≤ bq; rw [hgB]; omega
  refine lv_aload_n hx hb dL_law_1316 rfl (lv_at hl 1 rfl) ?_
  refine lv_aload_n hx hb dL_law_1317 rfl (lv_at hl 0 rfl) ?_
  refine lv_iload hx hb dL_law_1318 (lv_at hl 4 rfl) ?_
  refine lv_iconst (v := nI (1)) hx hb dL_law_1320 (by decide) ?_
  refine gAdd (z := nI (i + 1)) hx hb dL_law_1321 (nI_add _ _) ?_
  refine gScr (i := i + 1) (v := p) hx hb hX hbl hbA hS (by omega) hL9 ha1 dL_law_1322 ?_
  refine lv_aload_n hx hb dL_law_1323 rfl (lv_at hl 3 rfl) ?_
  refine kPreI (vx_runSW (As := [.ref (a 0), .int (p), .ref oa]) (rest := []) ⟨hx, hb, hml, hown, hts⟩ (c_L_lastKind_1 a v mo ki pr df co bi g9 lr bf tn ln nx ct hv v0 k0 v1 k1 oa of p (hbad) hfl (PP_l hP) ((pre_D hD).weaken (fun _ _ _ h => hLo _ h))) (vx_cwSW 3 hts gL_law_L_lastKind rfl rfl rfl (by decide +kernel) ⟨(Nat.le_of_ble_eq_true rfl), (Nat.le_of_ble_eq_true rfl)⟩) (preSX hCX hS hLo) rfl rfl hl.1 rfl (lv_room (Nat.le_of_ble_eq_true rfl)) dL_law_1324 ⟨by show c0 + _ ≤ 601024; omega, by show s0 + _ ≤ 7293034; omega⟩) hP hD hS hA (fun _ => lw_fst) (fun r_3 u_1 H locs q_2 hP hD hS => ?_)
  have hP : PP G (lwW G a v mo ki pr df co bi g9 lr bf tn ln nx ct hv v0 k0 v1 k1 oa of mh m1 m2 m3 m4 m5 ss hi sl tx ne th kn ke le sp wr si on tw dn) H := hP
  have hD : va_D (lo G) (lwW G a v mo ki pr df co bi g9 lr bf tn ln nx ct hv v0 k0 v1 k1 oa of mh m1 m2 m3 m4 m5 ss hi sl tx ne th kn ke le sp wr si on tw dn) := hD
  refine topE (v' := nI (1)) (q_2) ?_
  refine lv_istore (lv' := [(5, .int (nI (1))), (0, .ref bq), (1, .ref (a 0)), (2, .ref mh), (3, .ref oa), (4, .int (nI (i)))]) hx hb dL_law_1327 hl (by decide) rfl (fun ls hl => ?_)
  refine lv_aload_n hx hb dL_law_1329 rfl (lv_at hl 3 rfl) ?_
  refine lv_aload_n hx hb dL_law_1330 rfl (lv_at hl 1 rfl) ?_
  refine lv_iload hx hb dL_law_1331 (lv_at hl 5 rfl) ?_
  refine lv_iconst (v := nI (1)) hx hb dL_law_1333 (by decide) ?_
  refine gAdd (z := nI (i + 1)) hx hb dL_law_1334 (nI_add _ _) ?_
  refine gScr (i := i + 1) (v := p) hx hb hX hbl hbA hS (by omega) hL9 ha1 dL_law_1335 ?_
  refine kSufI (va_runV (As := [.int (p)]) (rest := []) ⟨hx, hb, hml, hown, hts⟩ (c_X9_lastKind_1 mh m1 m2 m3 m4 m5 ss hi sl tx ne th kn ke le sp wr si on tw dn p (hbad) (PP_r hP) ((pre_D (va_D_swap hD)).weaken (fun _ _ _ h => hLo _ h))) (cwV 1 hts gL_law_X9_lastKind rfl rfl rfl (by decide +kernel) ⟨(Nat.le_of_ble_eq_true rfl), (Nat.le_of_ble_eq_true rfl)⟩) (preV hC hS hLo (PP_r hP) (ci := 8) (q0 := 0) rfl rfl) rfl rfl hl.1 rfl (lv_room (Nat.le_of_ble_eq_true rfl)) dL_law_1336 ⟨by show c0 + _ ≤ 601024; omega, by show s0 + _ ≤ 7293034; omega⟩) hP hD hS hA (fun _ => rfl) (fun r_6 u_4 H locs q_5 hP hD hS => ?_)
  have hP : PP G (lwW G a v mo ki pr df co bi g9 lr bf tn ln nx ct hv v0 k0 v1 k1 oa of mh m1 m2 m3 m4 m5 ss hi sl tx ne (nI 1) kn ke le sp wr si on tw dn) H := hP
  have hD : va_D (lo G) (lwW G a v mo ki pr df co bi g9 lr bf tn ln nx ct hv v0 k0 v1 k1 oa of mh m1 m2 m3 m4 m5 ss hi sl tx ne (nI 1) kn ke le sp wr si on tw dn) := hD
  refine topE (v' := nI (0)) (q_5) ?_
  refine lv_istore (lv' := [(6, .int (nI (0))), (5, .int (nI (1))), (0, .ref bq), (1, .ref (a 0)), (2, .ref mh), (3, .ref oa), (4, .int (nI (i)))]) hx hb dL_law_1339 hl (by decide) rfl (fun ls hl => ?_)
  refine lv_aload_n hx hb dL_law_1341 rfl (lv_at hl 4 rfl) ?_
  refine kPi (va_runV (As := []) (rest := []) ⟨hx, hb, hml, hown, hts⟩ (c_X9_thrown mh m1 m2 m3 m4 m5 ss hi sl tx ne (nI (1)) kn ke le sp wr si on tw dn (PP_r hP)) (cwV 0 hts gL_law_X9_thrown rfl rfl rfl (by decide +kernel) ⟨(Nat.le_of_ble_eq_true rfl), (Nat.le_of_ble_eq_true rfl)⟩) (preV hC hS hLo (PP_r hP) (ci := 8) (q0 := 0) rfl rfl) rfl rfl hl.1 rfl (lv_room (Nat.le_of_ble_eq_true rfl)) dL_law_1342 ⟨by show c0 + _ ≤ 601024; omega, by show s0 + _ ≤ 7293034; omega⟩) hS (fun locs hS => ?_)
  refine lv_iload hx hb dL_law_1345 (lv_at hl 1 rfl) ?_
  refine lv_icmp_eq (tgt := 1352) hx hb dL_law_1347 (by decide) (fun c_7 => ?_) (fun c_7 => ?_)
  · have f_8 := c_7
    refine lv_iload hx hb dL_law_1352 (lv_at hl 1 rfl) ?_
    refine lv_if_ne (tgt := 1369) hx hb dL_law_1354 (by decide) (fun c_9 => ?_) (fun c_9 => ?_)
    · have f_10 : ¬ (1 : Int) = (0 : Int) := fun z => c_9 ((c_eq (nI_toInt (n := 1) (by omega)) rfl).mpr z)
      refine lv_goto (tgt := 1768) hx hb dL_law_1369 (by decide) ?_
      exact hk H locs ls hP hD hS (lv_sub hl [2, 3, 4, 5, 6] rfl)
    · have f_11 : (1 : Int) = (0 : Int) := (c_eq (nI_toInt (n := 1) (by omega)) rfl).mp c_9
      exfalso; omega
  · have f_12 := c_7
    exact absurd rfl f_12

set_option maxHeartbeats 4000000 in
set_option maxRecDepth 100000 in
theorem lw_25_ok {pg : Program} {l : Launch} {ev : Env} {s : State} {m : MethodId} {below : List Frame} {meth : Method} {c : Code} {Q : State → Prop} {G : GT} {bq L : Nat} {xs : Nat → Int32} (hLK : LK pg l s m meth c bq L xs G) (c0 s0 : Nat) (hroom : c0 + 1 ≤ 601024 ∧ s0 + 6 ≤ 7293034) (a : Nat → Nat) (v : SVT) (mo ki : Nat → Nat) (pr df : Nat → Int) (co : Int32) (bi : Nat) (g9 : Nat → Int32) (lr : Nat) (bf : Nat → Int) (tn : Nat → Nat) (ln nx ct : Nat) (hv : Nat → SVT) (v0 : SVT) (k0 : Nat) (v1 : SVT) (k1 : Nat) (oa : Nat) (of : Nat → Int64) (mh m1 m2 m3 m4 m5 : Nat) (ss hi sl : Nat → Int) (tx : Nat → Nat) (ne : Nat → Int) (th : Int32) (kn ke le : Nat) (sp wr si on tw dn : Int32) (i : Nat) (b : Nat) (hi5 : i + 5 ≤ L) (ha1 : xs (i + 1) = nI (b)) (hb4 : b < 4) (hkd : 1 ≤ v.2.2.2.2.2.2.1 ∧ v.2.2.2.2.2.2.1 ≤ 20) (hpi : v.2.2.2.2.2.2.2.1 ≤ 999) (hk2 : v.2.2.2.1 b ≤ 2) (hMR : MR ss) (heq : iI (if ss 194 = 0 then -1 else ss (201 + b)) = iI (if v.2.2.2.2.2.2.2.1 = 0 ∨ v.2.2.2.1 b = 0 then -1 else (v.2.2.2.2.1 b : Int))) {H : Heap} {locs : List Loc} {ls : Array Slot} (hP : PP G (lwW G a v mo ki pr df co bi g9 lr bf tn ln nx ct hv v0 k0 v1 k1 oa of mh m1 m2 m3 m4 m5 ss hi sl tx ne th kn ke le sp wr si on tw dn) H) (hD : va_D (lo G) (lwW G a v mo ki pr df co bi g9 lr bf tn ln nx ct hv v0 k0 v1 k1 oa of mh m1 m2 m3 m4 m5 ss hi sl tx ne th kn ke le sp wr si on tw dn)) (hS : va_S (lo G) s.heap H locs) (hl : lv_has ls 7 [(0, .ref bq), (1, .ref (a 0)), (2, .ref mh), (3, .ref oa), (4, .int (nI (i)))])
    (hk : ∀ (H : Heap) (locs : List Loc) (ls : Array Slot), PP G (lwW G a v mo ki pr df co bi g9 lr bf tn ln nx ct hv v0 k0 v1 k1 oa (vp_updL of 0 ((iI (if v.2.2.2.2.2.2.2.1 = 0 ∨ v.2.2.2.1 b = 0 then -1 else (v.2.2.2.2.1 b : Int))).toInt64)) mh m1 m2 m3 m4 m5 ss hi sl tx ne (nI 0) kn ke le sp wr si on tw dn) H → va_D (lo G) (lwW G a v mo ki pr df co bi g9 lr bf tn ln nx ct hv v0 k0 v1 k1 oa (vp_updL of 0 ((iI (if v.2.2.2.2.2.2.2.1 = 0 ∨ v.2.2.2.1 b = 0 then -1 else (v.2.2.2.2.1 b : Int))).toInt64)) mh m1 m2 m3 m4 m5 ss hi sl tx ne (nI 0) kn ke le sp wr si on tw dn) → va_S (lo G) s.heap H locs → lv_has ls 7 [(0, .ref bq), (1, .ref (a 0)), (2, .ref mh), (3, .ref oa), (4, .int (nI (i)))] → W pg l ev room_1 s m #[Value.ref bq] below meth c H locs (c0 + 0) (s0 + 0) Q (F0 m 1768 ls [])) :
    W pg l ev room_1 s m #[Value.ref bq] below meth c H locs c0 s0 Q (F0 m 1372 ls []) := by
  obtain ⟨hx, hb, hml, hown, hts, hX, hbl, hCX, hgB, hfl, hL9⟩ := hLK
  have hC := hCX.1
  have hLo : ∀ q, lo G q → lo G q := fun _ h => h
  have hA : ∀ q, s.heap.size ≤ q → lo G q := fun q h => by show gB G ≤ q; rw [hgB]; exact h
  have hbA : ¬ lo G bq := by show ¬ gB G ≤ bq; rw [hgB]; omega
  refine lv_aload_n hx hb dL_law_1372 rfl (lv_at hl 1 rfl) ?_
  refine lv_aload_n hx hb dL_law_1373 rfl (lv_at hl 0 rfl) ?_
  refine lv_iload hx hb dL_law_1374 (lv_at hl 4 rfl) ?_
  refine lv_iconst (v := nI (1)) hx hb dL_law_1376 (by decide) ?_
  refine gAdd (z := nI (i + 1)) hx hb dL_law_1377 (nI_add _ _) ?_
  refine gScr (i := i + 1) (v := nI (b)) hx hb hX hbl hbA hS (by omega) hL9 ha1 dL_law_1378 ?_
  refine lv_aload_n hx hb dL_law_1379 rfl (lv_at hl 3 rfl) ?_
  refine kPreI (vx_runSW (As := [.ref (a 0), .int (nI (b)), .ref oa]) (rest := []) ⟨hx, hb, hml, hown, hts⟩ (c_L_lastMove a v mo ki pr df co bi g9 lr bf tn ln nx ct hv v0 k0 v1 k1 oa of b (hb4) (hkd) (hpi) (hk2) (PP_l hP) ((pre_D hD).weaken (fun _ _ _ h => hLo _ h))) (vx_cwSW 3 hts gL_law_L_lastMove rfl rfl rfl (by decide +kernel) ⟨(Nat.le_of_ble_eq_true rfl), (Nat.le_of_ble_eq_true rfl)⟩) (preS hC hS hLo) rfl rfl hl.1 rfl (lv_room (Nat.le_of_ble_eq_true rfl)) dL_law_1380 ⟨by show c0 + _ ≤ 601024; omega, by show s0 + _ ≤ 7293034; omega⟩) hP hD hS hA (fun _ => lw_fst) (fun r_3 u_1 H locs q_2 hP hD hS => ?_)
  have hP : PP G (lwW G a v mo ki pr df co bi g9 lr bf tn ln nx ct hv v0 k0 v1 k1 oa (vp_updL of 0 ((iI (if v.2.2.2.2.2.2.2.1 = 0 ∨ v.2.2.2.1 b = 0 then -1 else (v.2.2.2.2.1 b : Int))).toInt64)) mh m1 m2 m3 m4 m5 ss hi sl tx ne th kn ke le sp wr si on tw dn) H := hP
  have hD : va_D (lo G) (lwW G a v mo ki pr df co bi g9 lr bf tn ln nx ct hv v0 k0 v1 k1 oa (vp_updL of 0 ((iI (if v.2.2.2.2.2.2.2.1 = 0 ∨ v.2.2.2.1 b = 0 then -1 else (v.2.2.2.2.1 b : Int))).toInt64)) mh m1 m2 m3 m4 m5 ss hi sl tx ne th kn ke le sp wr si on tw dn) := hD
  refine topE (v' := nI (0)) (q_2) ?_
  refine lv_istore (lv' := [(5, .int (nI (0))), (0, .ref bq), (1, .ref (a 0)), (2, .ref mh), (3, .ref oa), (4, .int (nI (i)))]) hx hb dL_law_1383 hl (by decide) rfl (fun ls hl => ?_)
  refine lv_aload_n hx hb dL_law_1385 rfl (lv_at hl 3 rfl) ?_
  refine lv_aload_n hx hb dL_law_1386 rfl (lv_at hl 1 rfl) ?_
  refine lv_iload hx hb dL_law_1387 (lv_at hl 5 rfl) ?_
  refine lv_iconst (v := nI (1)) hx hb dL_law_1389 (by decide) ?_
  refine gAdd (z := nI (i + 1)) hx hb dL_law_1390 (nI_add _ _) ?_
  refine gScr (i := i + 1) (v := nI (b)) hx hb hX hbl hbA hS (by omega) hL9 ha1 dL_law_1391 ?_
  refine kSufI (va_runV (As := [.int (nI (b))]) (rest := []) ⟨hx, hb, hml, hown, hts⟩ (c_X9_lastMove mh m1 m2 m3 m4 m5 ss hi sl tx ne th kn ke le sp wr si on tw dn b (hb4) (hMR) (PP_r hP) ((pre_D (va_D_swap hD)).weaken (fun _ _ _ h => hLo _ h))) (cwV 1 hts gL_law_X9_lastMove rfl rfl rfl (by decide +kernel) ⟨(Nat.le_of_ble_eq_true rfl), (Nat.le_of_ble_eq_true rfl)⟩) (preV hC hS hLo (PP_r hP) (ci := 8) (q0 := 0) rfl rfl) rfl rfl hl.1 rfl (lv_room (Nat.le_of_ble_eq_true rfl)) dL_law_1392 ⟨by show c0 + _ ≤ 601024; omega, by show s0 + _ ≤ 7293034; omega⟩) hP hD hS hA (fun _ => rfl) (fun r_6 u_4 H locs q_5 hP hD hS => ?_)
  have hP : PP G (lwW G a v mo ki pr df co bi g9 lr bf tn ln nx ct hv v0 k0 v1 k1 oa (vp_updL of 0 ((iI (if v.2.2.2.2.2.2.2.1 = 0 ∨ v.2.2.2.1 b = 0 then -1 else (v.2.2.2.2.1 b : Int))).toInt64)) mh m1 m2 m3 m4 m5 ss hi sl tx ne (nI 0) kn ke le sp wr si on tw dn) H := hP
  have hD : va_D (lo G) (lwW G a v mo ki pr df co bi g9 lr bf tn ln nx ct hv v0 k0 v1 k1 oa (vp_updL of 0 ((iI (if v.2.2.2.2.2.2.2.1 = 0 ∨ v.2.2.2.1 b = 0 then -1 else (v.2.2.2.2.1 b : Int))).toInt64)) mh m1 m2 m3 m4 m5 ss hi sl tx ne (nI 0) kn ke le sp wr si on tw dn) := hD
  refine topE (v' := iI (if v.2.2.2.2.2.2.2.1 = 0 ∨ v.2.2.2.1 b = 0 then -1 else (v.2.2.2.2.1 b : Int))) (q_5.trans (heq)) ?_
  refine lv_istore (lv' := [(6, .int (iI (if v.2.2.2.2.2.2.2.1 = 0 ∨ v.2.2.2.1 b = 0 then -1 else (v.2.2.2.2.1 b : Int)))), (5, .int (nI (0))), (0, .ref bq), (1, .ref (a 0)), (2, .ref mh), (3, .ref oa), (4, .int (nI (i)))]) hx hb dL_law_1395 hl (by decide) rfl (fun ls hl => ?_)
  refine lv_aload_n hx hb dL_law_1397 rfl (lv_at hl 4 rfl) ?_
  refine kPi (va_runV (As := []) (rest := []) ⟨hx, hb, hml, hown, hts⟩ (c_X9_thrown mh m1 m2 m3 m4 m5 ss hi sl tx ne (nI (0)) kn ke le sp wr si on tw dn (PP_r hP)) (cwV 0 hts gL_law_X9_thrown rfl rfl rfl (by decide +kernel) ⟨(Nat.le_of_ble_eq_true rfl), (Nat.le_of_ble_eq_true rfl)⟩) (preV hC hS hLo (PP_r hP) (ci := 8) (q0 := 0) rfl rfl) rfl rfl hl.1 rfl (lv_room (Nat.le_of_ble_eq_true rfl)) dL_law_1398 ⟨by show c0 + _ ≤ 601024; omega, by show s0 + _ ≤ 7293034; omega⟩) hS (fun locs hS => ?_)
  refine lv_iload hx hb dL_law_1401 (lv_at hl 1 rfl) ?_
  refine lv_icmp_eq (tgt := 1408) hx hb dL_law_1403 (by decide) (fun c_7 => ?_) (fun c_7 => ?_)
  · have f_8 := c_7
    refine lv_iload hx hb dL_law_1408 (lv_at hl 1 rfl) ?_
    refine lv_if_ne (tgt := 1425) hx hb dL_law_1410 (by decide) (fun c_9 => ?_) (fun c_9 => ?_)
    · have f_10 : ¬ (0 : Int) = (0 : Int) := fun z => c_9 ((c_eq (nI_toInt (n := 0) (by omega)) rfl).mpr z)
      exfalso; omega
    · have f_11 : (0 : Int) = (0 : Int) := (c_eq (nI_toInt (n := 0) (by omega)) rfl).mp c_9
      refine lv_aload_n hx hb dL_law_1413 rfl (lv_at hl 5 rfl) ?_
      refine lv_iconst (v := nI (0)) hx hb dL_law_1414 (by decide) ?_
      refine gLald (j := 0) hx hb hC.K (PP_r (PP_l hP)) 0 4 rfl rfl rfl (by decide) (by decide) dL_law_1415 ?_
      refine W.eq (g2 := F0 m 1416 ls [.long ((iI (if v.2.2.2.2.2.2.2.1 = 0 ∨ v.2.2.2.1 b = 0 then -1 else (v.2.2.2.2.1 b : Int))).toInt64)]) rfl ?_
      refine lv_iload hx hb dL_law_1416 (lv_at hl 0 rfl) ?_
      refine lv_i2l (v := (iI (if v.2.2.2.2.2.2.2.1 = 0 ∨ v.2.2.2.1 b = 0 then -1 else (v.2.2.2.2.1 b : Int))).toInt64) hx hb dL_law_1418 (rfl) ?_
      refine W.lcmp hx hb dL_law_1419 ?_
      refine topE (v' := nI (0)) (lg_self _) ?_
      refine lv_if_eq (tgt := 1425) hx hb dL_law_1420 (by decide) (fun c_12 => ?_) (fun c_12 => ?_)
      · have f_13 : (0 : Int) = (0 : Int) := (c_eq (nI_toInt (n := 0) (by omega)) rfl).mp c_12
        refine lv_goto (tgt := 1768) hx hb dL_law_1425 (by decide) ?_
        exact hk H locs ls hP hD hS (lv_sub hl [2, 3, 4, 5, 6] rfl)
      · have f_14 : ¬ (0 : Int) = (0 : Int) := fun z => c_12 ((c_eq (nI_toInt (n := 0) (by omega)) rfl).mpr z)
        exfalso; omega
  · have f_15 := c_7
    exact absurd rfl f_15

set_option maxHeartbeats 4000000 in
set_option maxRecDepth 100000 in
theorem lw_25_x1 {pg : Program} {l : Launch} {ev : Env} {s : State} {m : MethodId} {below : List Frame} {meth : Method} {c : Code} {Q : State → Prop} {G : GT} {bq L : Nat} {xs : Nat → Int32} (hLK : LK pg l s m meth c bq L xs G) (c0 s0 : Nat) (hroom : c0 + 1 ≤ 601024 ∧ s0 + 6 ≤ 7293034) (a : Nat → Nat) (v : SVT) (mo ki : Nat → Nat) (pr df : Nat → Int) (co : Int32) (bi : Nat) (g9 : Nat → Int32) (lr : Nat) (bf : Nat → Int) (tn : Nat → Nat) (ln nx ct : Nat) (hv : Nat → SVT) (v0 : SVT) (k0 : Nat) (v1 : SVT) (k1 : Nat) (oa : Nat) (of : Nat → Int64) (mh m1 m2 m3 m4 m5 : Nat) (ss hi sl : Nat → Int) (tx : Nat → Nat) (ne : Nat → Int) (th : Int32) (kn ke le : Nat) (sp wr si on tw dn : Int32) (i : Nat) (p : Int32) (hi5 : i + 5 ≤ L) (ha1 : xs (i + 1) = p) (hbad : p.toInt < 0 ∨ 4 ≤ p.toInt) {H : Heap} {locs : List Loc} {ls : Array Slot} (hP : PP G (lwW G a v mo ki pr df co bi g9 lr bf tn ln nx ct hv v0 k0 v1 k1 oa of mh m1 m2 m3 m4 m5 ss hi sl tx ne th kn ke le sp wr si on tw dn) H) (hD : va_D (lo G) (lwW G a v mo ki pr df co bi g9 lr bf tn ln nx ct hv v0 k0 v1 k1 oa of mh m1 m2 m3 m4 m5 ss hi sl tx ne th kn ke le sp wr si on tw dn)) (hS : va_S (lo G) s.heap H locs) (hl : lv_has ls 7 [(0, .ref bq), (1, .ref (a 0)), (2, .ref mh), (3, .ref oa), (4, .int (nI (i)))])
    (hk : ∀ (H : Heap) (locs : List Loc) (ls : Array Slot), PP G (lwW G a v mo ki pr df co bi g9 lr bf tn ln nx ct hv v0 k0 v1 k1 oa of mh m1 m2 m3 m4 m5 ss hi sl tx ne (nI 1) kn ke le sp wr si on tw dn) H → va_D (lo G) (lwW G a v mo ki pr df co bi g9 lr bf tn ln nx ct hv v0 k0 v1 k1 oa of mh m1 m2 m3 m4 m5 ss hi sl tx ne (nI 1) kn ke le sp wr si on tw dn) → va_S (lo G) s.heap H locs → lv_has ls 7 [(0, .ref bq), (1, .ref (a 0)), (2, .ref mh), (3, .ref oa), (4, .int (nI (i)))] → W pg l ev room_1 s m #[Value.ref bq] below meth c H locs (c0 + 1) (s0 + 6) Q (F0 m 1768 ls [])) :
    W pg l ev room_1 s m #[Value.ref bq] below meth c H locs c0 s0 Q (F0 m 1372 ls []) := by
  obtain ⟨hx, hb, hml, hown, hts, hX, hbl, hCX, hgB, hfl, hL9⟩ := hLK
  have hC := hCX.1
  have hLo : ∀ q, lo G q → lo G q := fun _ h => h
  have hA : ∀ q, s.heap.size ≤ q → lo G q := fun q h => by show gB G ≤ q; rw [hgB]; exact h
  have hbA : ¬ lo G bq := by show ¬ gB G ≤ bq; rw [hgB]; omega
  refine lv_aload_n hx hb dL_law_1372 rfl (lv_at hl 1 rfl) ?_
  refine lv_aload_n hx hb dL_law_1373 rfl (lv_at hl 0 rfl) ?_
  refine lv_iload hx hb dL_law_1374 (lv_at hl 4 rfl) ?_
  refine lv_iconst (v := nI (1)) hx hb dL_law_1376 (by decide) ?_
  refine gAdd (z := nI (i + 1)) hx hb dL_law_1377 (nI_add _ _) ?_
  refine gScr (i := i + 1) (v := p) hx hb hX hbl hbA hS (by omega) hL9 ha1 dL_law_1378 ?_
  refine lv_aload_n hx hb dL_law_1379 rfl (lv_at hl 3 rfl) ?_
  refine kPreI (vx_runSW (As := [.ref (a 0), .int (p), .ref oa]) (rest := []) ⟨hx, hb, hml, hown, hts⟩ (c_L_lastMove_1 a v mo ki pr df co bi g9 lr bf tn ln nx ct hv v0 k0 v1 k1 oa of p (hbad) hfl (PP_l hP) ((pre_D hD).weaken (fun _ _ _ h => hLo _ h))) (vx_cwSW 3 hts gL_law_L_lastMove rfl rfl rfl (by decide +kernel) ⟨(Nat.le_of_ble_eq_true rfl), (Nat.le_of_ble_eq_true rfl)⟩) (preSX hCX hS hLo) rfl rfl hl.1 rfl (lv_room (Nat.le_of_ble_eq_true rfl)) dL_law_1380 ⟨by show c0 + _ ≤ 601024; omega, by show s0 + _ ≤ 7293034; omega⟩) hP hD hS hA (fun _ => lw_fst) (fun r_3 u_1 H locs q_2 hP hD hS => ?_)
  have hP : PP G (lwW G a v mo ki pr df co bi g9 lr bf tn ln nx ct hv v0 k0 v1 k1 oa of mh m1 m2 m3 m4 m5 ss hi sl tx ne th kn ke le sp wr si on tw dn) H := hP
  have hD : va_D (lo G) (lwW G a v mo ki pr df co bi g9 lr bf tn ln nx ct hv v0 k0 v1 k1 oa of mh m1 m2 m3 m4 m5 ss hi sl tx ne th kn ke le sp wr si on tw dn) := hD
  refine topE (v' := nI (1)) (q_2) ?_
  refine lv_istore (lv' := [(5, .int (nI (1))), (0, .ref bq), (1, .ref (a 0)), (2, .ref mh), (3, .ref oa), (4, .int (nI (i)))]) hx hb dL_law_1383 hl (by decide) rfl (fun ls hl => ?_)
  refine lv_aload_n hx hb dL_law_1385 rfl (lv_at hl 3 rfl) ?_
  refine lv_aload_n hx hb dL_law_1386 rfl (lv_at hl 1 rfl) ?_
  refine lv_iload hx hb dL_law_1387 (lv_at hl 5 rfl) ?_
  refine lv_iconst (v := nI (1)) hx hb dL_law_1389 (by decide) ?_
  refine gAdd (z := nI (i + 1)) hx hb dL_law_1390 (nI_add _ _) ?_
  refine gScr (i := i + 1) (v := p) hx hb hX hbl hbA hS (by omega) hL9 ha1 dL_law_1391 ?_
  refine kSufI (va_runV (As := [.int (p)]) (rest := []) ⟨hx, hb, hml, hown, hts⟩ (c_X9_lastMove_1 mh m1 m2 m3 m4 m5 ss hi sl tx ne th kn ke le sp wr si on tw dn p (hbad) (PP_r hP) ((pre_D (va_D_swap hD)).weaken (fun _ _ _ h => hLo _ h))) (cwV 1 hts gL_law_X9_lastMove rfl rfl rfl (by decide +kernel) ⟨(Nat.le_of_ble_eq_true rfl), (Nat.le_of_ble_eq_true rfl)⟩) (preV hC hS hLo (PP_r hP) (ci := 8) (q0 := 0) rfl rfl) rfl rfl hl.1 rfl (lv_room (Nat.le_of_ble_eq_true rfl)) dL_law_1392 ⟨by show c0 + _ ≤ 601024; omega, by show s0 + _ ≤ 7293034; omega⟩) hP hD hS hA (fun _ => rfl) (fun r_6 u_4 H locs q_5 hP hD hS => ?_)
  have hP : PP G (lwW G a v mo ki pr df co bi g9 lr bf tn ln nx ct hv v0 k0 v1 k1 oa of mh m1 m2 m3 m4 m5 ss hi sl tx ne (nI 1) kn ke le sp wr si on tw dn) H := hP
  have hD : va_D (lo G) (lwW G a v mo ki pr df co bi g9 lr bf tn ln nx ct hv v0 k0 v1 k1 oa of mh m1 m2 m3 m4 m5 ss hi sl tx ne (nI 1) kn ke le sp wr si on tw dn) := hD
  refine topE (v' := nI (0)) (q_5) ?_
  refine lv_istore (lv' := [(6, .int (nI (0))), (5, .int (nI (1))), (0, .ref bq), (1, .ref (a 0)), (2, .ref mh), (3, .ref oa), (4, .int (nI (i)))]) hx hb dL_law_1395 hl (by decide) rfl (fun ls hl => ?_)
  refine lv_aload_n hx hb dL_law_1397 rfl (lv_at hl 4 rfl) ?_
  refine kPi (va_runV (As := []) (rest := []) ⟨hx, hb, hml, hown, hts⟩ (c_X9_thrown mh m1 m2 m3 m4 m5 ss hi sl tx ne (nI (1)) kn ke le sp wr si on tw dn (PP_r hP)) (cwV 0 hts gL_law_X9_thrown rfl rfl rfl (by decide +kernel) ⟨(Nat.le_of_ble_eq_true rfl), (Nat.le_of_ble_eq_true rfl)⟩) (preV hC hS hLo (PP_r hP) (ci := 8) (q0 := 0) rfl rfl) rfl rfl hl.1 rfl (lv_room (Nat.le_of_ble_eq_true rfl)) dL_law_1398 ⟨by show c0 + _ ≤ 601024; omega, by show s0 + _ ≤ 7293034; omega⟩) hS (fun locs hS => ?_)
  refine lv_iload hx hb dL_law_1401 (lv_at hl 1 rfl) ?_
  refine lv_icmp_eq (tgt := 1408) hx hb dL_law_1403 (by decide) (fun c_7 => ?_) (fun c_7 => ?_)
  · have f_8 := c_7
    refine lv_iload hx hb dL_law_1408 (lv_at hl 1 rfl) ?_
    refine lv_if_ne (tgt := 1425) hx hb dL_law_1410 (by decide) (fun c_9 => ?_) (fun c_9 => ?_)
    · have f_10 : ¬ (1 : Int) = (0 : Int) := fun z => c_9 ((c_eq (nI_toInt (n := 1) (by omega)) rfl).mpr z)
      refine lv_goto (tgt := 1768) hx hb dL_law_1425 (by decide) ?_
      exact hk H locs ls hP hD hS (lv_sub hl [2, 3, 4, 5, 6] rfl)
    · have f_11 : (1 : Int) = (0 : Int) := (c_eq (nI_toInt (n := 1) (by omega)) rfl).mp c_9
      exfalso; omega
  · have f_12 := c_7
    exact absurd rfl f_12

set_option maxHeartbeats 4000000 in
set_option maxRecDepth 100000 in
theorem lw_26_ok {pg : Program} {l : Launch} {ev : Env} {s : State} {m : MethodId} {below : List Frame} {meth : Method} {c : Code} {Q : State → Prop} {G : GT} {bq L : Nat} {xs : Nat → Int32} (hLK : LK pg l s m meth c bq L xs G) (c0 s0 : Nat) (hroom : c0 + 1 ≤ 601024 ∧ s0 + 6 ≤ 7293034) (a : Nat → Nat) (v : SVT) (mo ki : Nat → Nat) (pr df : Nat → Int) (co : Int32) (bi : Nat) (g9 : Nat → Int32) (lr : Nat) (bf : Nat → Int) (tn : Nat → Nat) (ln nx ct : Nat) (hv : Nat → SVT) (v0 : SVT) (k0 : Nat) (v1 : SVT) (k1 : Nat) (oa : Nat) (of : Nat → Int64) (mh m1 m2 m3 m4 m5 : Nat) (ss hi sl : Nat → Int) (tx : Nat → Nat) (ne : Nat → Int) (th : Int32) (kn ke le : Nat) (sp wr si on tw dn : Int32) (i : Nat) (cu : Nat) (hi5 : i + 5 ≤ L) (hu : cu < 2 ^ 64) (hcs : ¬ CS cu = 0) (hlk : ln + CS cu ≤ 80) (hle : le ≤ 80) (hlk' : le + CS cu ≤ 80) (hac : ((xs (i + 1)).toInt64 <<< ((nI (32)).toInt64 &&& 63)) ||| ((xs (i + 2)).toInt64 &&& 4294967295) = lN cu) (heq : nI (le + CS cu) = nI (ln + CS cu)) {H : Heap} {locs : List Loc} {ls : Array Slot} (hP : PP G (lwW G a v mo ki pr df co bi g9 lr bf tn ln nx ct hv v0 k0 v1 k1 oa of mh m1 m2 m3 m4 m5 ss hi sl tx ne th kn ke le sp wr si on tw dn) H) (hD : va_D (lo G) (lwW G a v mo ki pr df co bi g9 lr bf tn ln nx ct hv v0 k0 v1 k1 oa of mh m1 m2 m3 m4 m5 ss hi sl tx ne th kn ke le sp wr si on tw dn)) (hS : va_S (lo G) s.heap H locs) (hl : lv_has ls 7 [(0, .ref bq), (1, .ref (a 0)), (2, .ref mh), (3, .ref oa), (4, .int (nI (i)))])
    (hk : ∀ (H : Heap) (locs : List Loc) (ls : Array Slot), PP G (lwW G a v mo ki pr df co bi g9 lr bf (adT tn ln cu (CS cu) (CS cu)) (ln + CS cu) nx ct hv v0 k0 v1 k1 oa (vp_updL of 0 ((nI (ln + CS cu)).toInt64)) mh m1 m2 m3 m4 m5 ss hi sl (adT tx le cu (CS cu) (CS cu)) ne (nI 0) kn ke (le + CS cu) sp wr si on tw dn) H → va_D (lo G) (lwW G a v mo ki pr df co bi g9 lr bf (adT tn ln cu (CS cu) (CS cu)) (ln + CS cu) nx ct hv v0 k0 v1 k1 oa (vp_updL of 0 ((nI (ln + CS cu)).toInt64)) mh m1 m2 m3 m4 m5 ss hi sl (adT tx le cu (CS cu) (CS cu)) ne (nI 0) kn ke (le + CS cu) sp wr si on tw dn) → va_S (lo G) s.heap H locs → lv_has ls 7 [(0, .ref bq), (1, .ref (a 0)), (2, .ref mh), (3, .ref oa), (4, .int (nI (i)))] → W pg l ev room_1 s m #[Value.ref bq] below meth c H locs (c0 + 0) (s0 + 0) Q (F0 m 1768 ls [])) :
    W pg l ev room_1 s m #[Value.ref bq] below meth c H locs c0 s0 Q (F0 m 1428 ls []) := by
  obtain ⟨hx, hb, hml, hown, hts, hX, hbl, hCX, hgB, hfl, hL9⟩ := hLK
  have hC := hCX.1
  have hLo : ∀ q, lo G q → lo G q := fun _ h => h
  have hA : ∀ q, s.heap.size ≤ q → lo G q := fun q h => by show gB G ≤ q; rw [hgB]; exact h
  have hbA : ¬ lo G bq := by show ¬ gB G ≤ bq; rw [hgB]; omega
  refine lv_aload_n hx hb dL_law_1428 rfl (lv_at hl 1 rfl) ?_
  refine lv_aload_n hx hb dL_law_1429 rfl (lv_at hl 0 rfl) ?_
  refine lv_iload hx hb dL_law_1430 (lv_at hl 4 rfl) ?_
  refine lv_iconst (v := nI (1)) hx hb dL_law_1432 (by decide) ?_
  refine gAdd (z := nI (i + 1)) hx hb dL_law_1433 (nI_add _ _) ?_
  refine gScr (i := i + 1) (v := xs (i + 1)) hx hb hX hbl hbA hS (by omega) hL9 rfl dL_law_1434 ?_
  refine lv_i2l (v := (xs (i + 1)).toInt64) hx hb dL_law_1435 (rfl) ?_
  refine lv_bipush (v := nI (32)) hx hb dL_law_1436 (by decide) ?_
  refine lv_lshl (v := ((xs (i + 1)).toInt64) <<< ((nI (32)).toInt64 &&& 63)) hx hb dL_law_1438 (rfl) ?_
  refine lv_aload_n hx hb dL_law_1439 rfl (lv_at hl 0 rfl) ?_
  refine lv_iload hx hb dL_law_1440 (lv_at hl 4 rfl) ?_
  refine lv_iconst (v := nI (2)) hx hb dL_law_1442 (by decide) ?_
  refine gAdd (z := nI (i + 2)) hx hb dL_law_1443 (nI_add _ _) ?_
  refine gScr (i := i + 2) (v := xs (i + 2)) hx hb hX hbl hbA hS (by omega) hL9 rfl dL_law_1444 ?_
  refine lv_i2l (v := (xs (i + 2)).toInt64) hx hb dL_law_1445 (rfl) ?_
  refine lv_ldc2 (v := 4294967295) hx hb hown (hts (.constantLong RL 190 (4294967295)) (by decide +kernel)) dL_law_1446 ?_
  refine g_land (z := ((xs (i + 2)).toInt64) &&& 4294967295) hx hb dL_law_1449 (rfl) ?_
  refine g_lor (z := lN cu) hx hb dL_law_1450 (hac) ?_
  refine lv_aload_n hx hb dL_law_1451 rfl (lv_at hl 3 rfl) ?_
  refine kPreI (vx_runSW (As := [.ref (a 0), .long (lN cu), .ref oa]) (rest := []) ⟨hx, hb, hml, hown, hts⟩ (c_L_appendText a v mo ki pr df co bi g9 lr bf tn ln nx ct hv v0 k0 v1 k1 oa of cu (hu) (hcs) (hlk) (PP_l hP) ((pre_D hD).weaken (fun _ _ _ h => hLo _ h))) (vx_cwSW 3 hts gL_law_L_appendText rfl rfl rfl (by decide +kernel) ⟨(Nat.le_of_ble_eq_true rfl), (Nat.le_of_ble_eq_true rfl)⟩) (preS hC hS hLo) rfl rfl hl.1 rfl (lv_room (Nat.le_of_ble_eq_true rfl)) dL_law_1452 ⟨by show c0 + _ ≤ 601024; omega, by show s0 + _ ≤ 7293034; omega⟩) hP hD hS hA (fun _ => lw_fst) (fun r_3 u_1 H locs q_2 hP hD hS => ?_)
  have hP : PP G (lwW G a v mo ki pr df co bi g9 lr bf (adT tn ln cu (CS cu) (CS cu)) (ln + CS cu) nx ct hv v0 k0 v1 k1 oa (vp_updL of 0 ((nI (ln + CS cu)).toInt64)) mh m1 m2 m3 m4 m5 ss hi sl tx ne th kn ke le sp wr si on tw dn) H := hP
  have hD : va_D (lo G) (lwW G a v mo ki pr df co bi g9 lr bf (adT tn ln cu (CS cu) (CS cu)) (ln + CS cu) nx ct hv v0 k0 v1 k1 oa (vp_updL of 0 ((nI (ln + CS cu)).toInt64)) mh m1 m2 m3 m4 m5 ss hi sl tx ne th kn ke le sp wr si on tw dn) := hD
  refine topE (v' := nI (0)) (q_2) ?_
  refine lv_istore (lv' := [(5, .int (nI (0))), (0, .ref bq), (1, .ref (a 0)), (2, .ref mh), (3, .ref oa), (4, .int (nI (i)))]) hx hb dL_law_1455 hl (by decide) rfl (fun ls hl => ?_)
  refine lv_aload_n hx hb dL_law_1457 rfl (lv_at hl 3 rfl) ?_
  refine lv_aload_n hx hb dL_law_1458 rfl (lv_at hl 1 rfl) ?_
  refine lv_iload hx hb dL_law_1459 (lv_at hl 5 rfl) ?_
  refine lv_iconst (v := nI (1)) hx hb dL_law_1461 (by decide) ?_
  refine gAdd (z := nI (i + 1)) hx hb dL_law_1462 (nI_add _ _) ?_
  refine gScr (i := i + 1) (v := xs (i + 1)) hx hb hX hbl hbA hS (by omega) hL9 rfl dL_law_1463 ?_
  refine lv_i2l (v := (xs (i + 1)).toInt64) hx hb dL_law_1464 (rfl) ?_
  refine lv_bipush (v := nI (32)) hx hb dL_law_1465 (by decide) ?_
  refine lv_lshl (v := ((xs (i + 1)).toInt64) <<< ((nI (32)).toInt64 &&& 63)) hx hb dL_law_1467 (rfl) ?_
  refine lv_aload_n hx hb dL_law_1468 rfl (lv_at hl 1 rfl) ?_
  refine lv_iload hx hb dL_law_1469 (lv_at hl 5 rfl) ?_
  refine lv_iconst (v := nI (2)) hx hb dL_law_1471 (by decide) ?_
  refine gAdd (z := nI (i + 2)) hx hb dL_law_1472 (nI_add _ _) ?_
  refine gScr (i := i + 2) (v := xs (i + 2)) hx hb hX hbl hbA hS (by omega) hL9 rfl dL_law_1473 ?_
  refine lv_i2l (v := (xs (i + 2)).toInt64) hx hb dL_law_1474 (rfl) ?_
  refine lv_ldc2 (v := 4294967295) hx hb hown (hts (.constantLong RL 190 (4294967295)) (by decide +kernel)) dL_law_1475 ?_
  refine g_land (z := ((xs (i + 2)).toInt64) &&& 4294967295) hx hb dL_law_1478 (rfl) ?_
  refine g_lor (z := lN cu) hx hb dL_law_1479 (hac) ?_
  refine kSufI (va_runV (As := [.long (lN cu)]) (rest := []) ⟨hx, hb, hml, hown, hts⟩ (c_X9_appendText mh m1 m2 m3 m4 m5 ss hi sl tx ne th kn ke le sp wr si on tw dn cu (hu) (hle) (hcs) (hlk') (PP_r hP) ((pre_D (va_D_swap hD)).weaken (fun _ _ _ h => hLo _ h))) (cwV 1 hts gL_law_X9_appendText rfl rfl rfl (by decide +kernel) ⟨(Nat.le_of_ble_eq_true rfl), (Nat.le_of_ble_eq_true rfl)⟩) (preV hC hS hLo (PP_r hP) (ci := 8) (q0 := 0) rfl rfl) rfl rfl hl.1 rfl (lv_room (Nat.le_of_ble_eq_true rfl)) dL_law_1480 ⟨by show c0 + _ ≤ 601024; omega, by show s0 + _ ≤ 7293034; omega⟩) hP hD hS hA (fun _ => rfl) (fun r_6 u_4 H locs q_5 hP hD hS => ?_)
  have hP : PP G (lwW G a v mo ki pr df co bi g9 lr bf (adT tn ln cu (CS cu) (CS cu)) (ln + CS cu) nx ct hv v0 k0 v1 k1 oa (vp_updL of 0 ((nI (ln + CS cu)).toInt64)) mh m1 m2 m3 m4 m5 ss hi sl (adT tx le cu (CS cu) (CS cu)) ne (nI 0) kn ke (le + CS cu) sp wr si on tw dn) H := hP
  have hD : va_D (lo G) (lwW G a v mo ki pr df co bi g9 lr bf (adT tn ln cu (CS cu) (CS cu)) (ln + CS cu) nx ct hv v0 k0 v1 k1 oa (vp_updL of 0 ((nI (ln + CS cu)).toInt64)) mh m1 m2 m3 m4 m5 ss hi sl (adT tx le cu (CS cu) (CS cu)) ne (nI 0) kn ke (le + CS cu) sp wr si on tw dn) := hD
  refine topE (v' := nI (ln + CS cu)) (q_5.trans (heq)) ?_
  refine lv_istore (lv' := [(6, .int (nI (ln + CS cu))), (5, .int (nI (0))), (0, .ref bq), (1, .ref (a 0)), (2, .ref mh), (3, .ref oa), (4, .int (nI (i)))]) hx hb dL_law_1483 hl (by decide) rfl (fun ls hl => ?_)
  refine lv_aload_n hx hb dL_law_1485 rfl (lv_at hl 4 rfl) ?_
  refine kPi (va_runV (As := []) (rest := []) ⟨hx, hb, hml, hown, hts⟩ (c_X9_thrown mh m1 m2 m3 m4 m5 ss hi sl (adT tx le cu (CS cu) (CS cu)) ne (nI (0)) kn ke (le + CS cu) sp wr si on tw dn (PP_r hP)) (cwV 0 hts gL_law_X9_thrown rfl rfl rfl (by decide +kernel) ⟨(Nat.le_of_ble_eq_true rfl), (Nat.le_of_ble_eq_true rfl)⟩) (preV hC hS hLo (PP_r hP) (ci := 8) (q0 := 0) rfl rfl) rfl rfl hl.1 rfl (lv_room (Nat.le_of_ble_eq_true rfl)) dL_law_1486 ⟨by show c0 + _ ≤ 601024; omega, by show s0 + _ ≤ 7293034; omega⟩) hS (fun locs hS => ?_)
  refine lv_iload hx hb dL_law_1489 (lv_at hl 1 rfl) ?_
  refine lv_icmp_eq (tgt := 1496) hx hb dL_law_1491 (by decide) (fun c_7 => ?_) (fun c_7 => ?_)
  · have f_8 := c_7
    refine lv_iload hx hb dL_law_1496 (lv_at hl 1 rfl) ?_
    refine lv_if_ne (tgt := 1513) hx hb dL_law_1498 (by decide) (fun c_9 => ?_) (fun c_9 => ?_)
    · have f_10 : ¬ (0 : Int) = (0 : Int) := fun z => c_9 ((c_eq (nI_toInt (n := 0) (by omega)) rfl).mpr z)
      exfalso; omega
    · have f_11 : (0 : Int) = (0 : Int) := (c_eq (nI_toInt (n := 0) (by omega)) rfl).mp c_9
      refine lv_aload_n hx hb dL_law_1501 rfl (lv_at hl 5 rfl) ?_
      refine lv_iconst (v := nI (0)) hx hb dL_law_1502 (by decide) ?_
      refine gLald (j := 0) hx hb hC.K (PP_r (PP_l hP)) 0 4 rfl rfl rfl (by decide) (by decide) dL_law_1503 ?_
      refine W.eq (g2 := F0 m 1504 ls [.long ((nI (ln + CS cu)).toInt64)]) rfl ?_
      refine lv_iload hx hb dL_law_1504 (lv_at hl 0 rfl) ?_
      refine lv_i2l (v := (nI (ln + CS cu)).toInt64) hx hb dL_law_1506 (rfl) ?_
      refine W.lcmp hx hb dL_law_1507 ?_
      refine topE (v' := nI (0)) (lg_self _) ?_
      refine lv_if_eq (tgt := 1513) hx hb dL_law_1508 (by decide) (fun c_12 => ?_) (fun c_12 => ?_)
      · have f_13 : (0 : Int) = (0 : Int) := (c_eq (nI_toInt (n := 0) (by omega)) rfl).mp c_12
        refine lv_goto (tgt := 1768) hx hb dL_law_1513 (by decide) ?_
        exact hk H locs ls hP hD hS (lv_sub hl [2, 3, 4, 5, 6] rfl)
      · have f_14 : ¬ (0 : Int) = (0 : Int) := fun z => c_12 ((c_eq (nI_toInt (n := 0) (by omega)) rfl).mpr z)
        exfalso; omega
  · have f_15 := c_7
    exact absurd rfl f_15
