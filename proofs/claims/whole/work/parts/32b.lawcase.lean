set_option maxHeartbeats 4000000 in
set_option maxRecDepth 100000 in
theorem lw_0_ok {pg : Program} {l : Launch} {ev : Env} {s : State} {m : MethodId} {below : List Frame} {meth : Method} {c : Code} {Q : State → Prop} {G : GT} {bq L : Nat} {xs : Nat → Int32} (hLK : LK pg l s m meth c bq L xs G) (c0 s0 : Nat) (hroom : c0 + 1 ≤ 601024 ∧ s0 + 6 ≤ 7293034) (a : Nat → Nat) (v : SVT) (mo ki : Nat → Nat) (pr df : Nat → Int) (co : Int32) (bi : Nat) (g9 : Nat → Int32) (lr : Nat) (bf : Nat → Int) (tn : Nat → Nat) (ln nx ct : Nat) (hv : Nat → SVT) (v0 : SVT) (k0 : Nat) (v1 : SVT) (k1 : Nat) (oa : Nat) (of : Nat → Int64) (mh m1 m2 m3 m4 m5 : Nat) (ss hi sl : Nat → Int) (tx : Nat → Nat) (ne : Nat → Int) (th : Int32) (kn ke le : Nat) (sp wr si on tw dn : Int32) (i : Nat) (p : Nat) (w : Int) (hi5 : i + 5 ≤ L) (ha1 : xs (i + 1) = nI (p)) (ha2 : xs (i + 2) = iI (w)) (hnx : nx < 6) (hct : ct ≤ 6) (hp : p < 64) (hw : 0 ≤ w ∧ w ≤ 15) (hkn : kn ≤ 6) (heq : iI (ss p) = iI (v.1 p)) {H : Heap} {locs : List Loc} {ls : Array Slot} (hP : PP G (lwW G a v mo ki pr df co bi g9 lr bf tn ln nx ct hv v0 k0 v1 k1 oa of mh m1 m2 m3 m4 m5 ss hi sl tx ne th kn ke le sp wr si on tw dn) H) (hD : va_D (lo G) (lwW G a v mo ki pr df co bi g9 lr bf tn ln nx ct hv v0 k0 v1 k1 oa of mh m1 m2 m3 m4 m5 ss hi sl tx ne th kn ke le sp wr si on tw dn)) (hS : va_S (lo G) s.heap H locs) (hl : lv_has ls 7 [(0, .ref bq), (1, .ref (a 0)), (2, .ref mh), (3, .ref oa), (4, .int (nI (i)))])
    (hk : ∀ (H : Heap) (locs : List Loc) (ls : Array Slot), PP G (lwW G a (va_up v.1 p w, v.2.1, v.2.2.1, v.2.2.2.1, v.2.2.2.2.1, v.2.2.2.2.2.1, v.2.2.2.2.2.2.1, v.2.2.2.2.2.2.2.1, v.2.2.2.2.2.2.2.2.1, v.2.2.2.2.2.2.2.2.2) mo ki pr df co bi g9 lr bf tn ln ((nx + 1) % 6) (min (ct + 1) 6) (va_up hv nx v) v0 k0 v1 k1 oa (vp_updL of 0 ((iI (v.1 p)).toInt64)) mh m1 m2 m3 m4 m5 (va_up ss p w) (recH hi ss kn) sl tx ne (nI 0) (min (kn + 1) 6) ke le sp wr si on tw dn) H → va_D (lo G) (lwW G a (va_up v.1 p w, v.2.1, v.2.2.1, v.2.2.2.1, v.2.2.2.2.1, v.2.2.2.2.2.1, v.2.2.2.2.2.2.1, v.2.2.2.2.2.2.2.1, v.2.2.2.2.2.2.2.2.1, v.2.2.2.2.2.2.2.2.2) mo ki pr df co bi g9 lr bf tn ln ((nx + 1) % 6) (min (ct + 1) 6) (va_up hv nx v) v0 k0 v1 k1 oa (vp_updL of 0 ((iI (v.1 p)).toInt64)) mh m1 m2 m3 m4 m5 (va_up ss p w) (recH hi ss kn) sl tx ne (nI 0) (min (kn + 1) 6) ke le sp wr si on tw dn) → va_S (lo G) s.heap H locs → lv_has ls 7 [(0, .ref bq), (1, .ref (a 0)), (2, .ref mh), (3, .ref oa), (4, .int (nI (i)))] → W pg l ev room_1 s m #[Value.ref bq] below meth c H locs (c0 + 0) (s0 + 0) Q (F0 m 1768 ls [])) :
    W pg l ev room_1 s m #[Value.ref bq] below meth c H locs c0 s0 Q (F0 m 192 ls []) := by
  obtain ⟨hx, hb, hml, hown, hts, hX, hbl, hCX, hgB, hfl, hL9⟩ := hLK
  have hC := hCX.1
  have hLo : ∀ q, lo G q → lo G q := fun _ h => h
  have hA : ∀ q, s.heap.size ≤ q → lo G q := fun q h => by show gB G ≤ q; rw [hgB]; exact h
  have hbA : ¬ lo G bq := by show ¬ gB G ≤ bq; rw [hgB]; omega
  refine lv_aload_n hx hb dL_law_192 rfl (lv_at hl 1 rfl) ?_
  refine lv_aload_n hx hb dL_law_193 rfl (lv_at hl 0 rfl) ?_
  refine lv_iload hx hb dL_law_194 (lv_at hl 4 rfl) ?_
  refine lv_iconst (v := nI (1)) hx hb dL_law_196 (by decide) ?_
  refine gAdd (z := nI (i + 1)) hx hb dL_law_197 (nI_add _ _) ?_
  refine gScr (i := i + 1) (v := nI (p)) hx hb hX hbl hbA hS (by omega) hL9 ha1 dL_law_198 ?_
  refine lv_aload_n hx hb dL_law_199 rfl (lv_at hl 0 rfl) ?_
  refine lv_iload hx hb dL_law_200 (lv_at hl 4 rfl) ?_
  refine lv_iconst (v := nI (2)) hx hb dL_law_202 (by decide) ?_
  refine gAdd (z := nI (i + 2)) hx hb dL_law_203 (nI_add _ _) ?_
  refine gScr (i := i + 2) (v := iI (w)) hx hb hX hbl hbA hS (by omega) hL9 ha2 dL_law_204 ?_
  refine lv_aload_n hx hb dL_law_205 rfl (lv_at hl 3 rfl) ?_
  refine kPreI (vx_runSW (As := [.ref (a 0), .int (nI (p)), .int (iI (w)), .ref oa]) (rest := []) ⟨hx, hb, hml, hown, hts⟩ (c_L_draw a v mo ki pr df co bi g9 lr bf tn ln nx ct hv v0 k0 v1 k1 oa of p w (hnx) (hct) (hp) (hw) (PP_l hP) ((pre_D hD).weaken (fun _ _ _ h => hLo _ h))) (vx_cwSW 4 hts gL_law_L_draw rfl rfl rfl (by decide +kernel) ⟨(Nat.le_of_ble_eq_true rfl), (Nat.le_of_ble_eq_true rfl)⟩) (preS hC hS hLo) rfl rfl hl.1 rfl (lv_room (Nat.le_of_ble_eq_true rfl)) dL_law_206 ⟨by show c0 + _ ≤ 601024; omega, by show s0 + _ ≤ 7293034; omega⟩) hP hD hS hA (fun _ => lw_fst) (fun r_3 u_1 H locs q_2 hP hD hS => ?_)
  have hP : PP G (lwW G a (va_up v.1 p w, v.2.1, v.2.2.1, v.2.2.2.1, v.2.2.2.2.1, v.2.2.2.2.2.1, v.2.2.2.2.2.2.1, v.2.2.2.2.2.2.2.1, v.2.2.2.2.2.2.2.2.1, v.2.2.2.2.2.2.2.2.2) mo ki pr df co bi g9 lr bf tn ln ((nx + 1) % 6) (min (ct + 1) 6) (va_up hv nx v) v0 k0 v1 k1 oa (vp_updL of 0 ((iI (v.1 p)).toInt64)) mh m1 m2 m3 m4 m5 ss hi sl tx ne th kn ke le sp wr si on tw dn) H := hP
  have hD : va_D (lo G) (lwW G a (va_up v.1 p w, v.2.1, v.2.2.1, v.2.2.2.1, v.2.2.2.2.1, v.2.2.2.2.2.1, v.2.2.2.2.2.2.1, v.2.2.2.2.2.2.2.1, v.2.2.2.2.2.2.2.2.1, v.2.2.2.2.2.2.2.2.2) mo ki pr df co bi g9 lr bf tn ln ((nx + 1) % 6) (min (ct + 1) 6) (va_up hv nx v) v0 k0 v1 k1 oa (vp_updL of 0 ((iI (v.1 p)).toInt64)) mh m1 m2 m3 m4 m5 ss hi sl tx ne th kn ke le sp wr si on tw dn) := hD
  refine topE (v' := nI (0)) (q_2) ?_
  refine lv_istore (lv' := [(5, .int (nI (0))), (0, .ref bq), (1, .ref (a 0)), (2, .ref mh), (3, .ref oa), (4, .int (nI (i)))]) hx hb dL_law_209 hl (by decide) rfl (fun ls hl => ?_)
  refine lv_aload_n hx hb dL_law_211 rfl (lv_at hl 3 rfl) ?_
  refine lv_aload_n hx hb dL_law_212 rfl (lv_at hl 1 rfl) ?_
  refine lv_iload hx hb dL_law_213 (lv_at hl 5 rfl) ?_
  refine lv_iconst (v := nI (1)) hx hb dL_law_215 (by decide) ?_
  refine gAdd (z := nI (i + 1)) hx hb dL_law_216 (nI_add _ _) ?_
  refine gScr (i := i + 1) (v := nI (p)) hx hb hX hbl hbA hS (by omega) hL9 ha1 dL_law_217 ?_
  refine lv_aload_n hx hb dL_law_218 rfl (lv_at hl 1 rfl) ?_
  refine lv_iload hx hb dL_law_219 (lv_at hl 5 rfl) ?_
  refine lv_iconst (v := nI (2)) hx hb dL_law_221 (by decide) ?_
  refine gAdd (z := nI (i + 2)) hx hb dL_law_222 (nI_add _ _) ?_
  refine gScr (i := i + 2) (v := iI (w)) hx hb hX hbl hbA hS (by omega) hL9 ha2 dL_law_223 ?_
  refine kSufI (va_runV (As := [.int (nI (p)), .int (iI (w))]) (rest := []) ⟨hx, hb, hml, hown, hts⟩ (c_X9_draw mh m1 m2 m3 m4 m5 ss hi sl tx ne th kn ke le sp wr si on tw dn p w (hkn) (hp) (hw) (PP_r hP) ((pre_D (va_D_swap hD)).weaken (fun _ _ _ h => hLo _ h))) (cwV 2 hts gL_law_X9_draw rfl rfl rfl (by decide +kernel) ⟨(Nat.le_of_ble_eq_true rfl), (Nat.le_of_ble_eq_true rfl)⟩) (preV hC hS hLo (PP_r hP) (ci := 8) (q0 := 0) rfl rfl) rfl rfl hl.1 rfl (lv_room (Nat.le_of_ble_eq_true rfl)) dL_law_224 ⟨by show c0 + _ ≤ 601024; omega, by show s0 + _ ≤ 7293034; omega⟩) hP hD hS hA (fun _ => rfl) (fun r_6 u_4 H locs q_5 hP hD hS => ?_)
  have hP : PP G (lwW G a (va_up v.1 p w, v.2.1, v.2.2.1, v.2.2.2.1, v.2.2.2.2.1, v.2.2.2.2.2.1, v.2.2.2.2.2.2.1, v.2.2.2.2.2.2.2.1, v.2.2.2.2.2.2.2.2.1, v.2.2.2.2.2.2.2.2.2) mo ki pr df co bi g9 lr bf tn ln ((nx + 1) % 6) (min (ct + 1) 6) (va_up hv nx v) v0 k0 v1 k1 oa (vp_updL of 0 ((iI (v.1 p)).toInt64)) mh m1 m2 m3 m4 m5 (va_up ss p w) (recH hi ss kn) sl tx ne (nI 0) (min (kn + 1) 6) ke le sp wr si on tw dn) H := hP
  have hD : va_D (lo G) (lwW G a (va_up v.1 p w, v.2.1, v.2.2.1, v.2.2.2.1, v.2.2.2.2.1, v.2.2.2.2.2.1, v.2.2.2.2.2.2.1, v.2.2.2.2.2.2.2.1, v.2.2.2.2.2.2.2.2.1, v.2.2.2.2.2.2.2.2.2) mo ki pr df co bi g9 lr bf tn ln ((nx + 1) % 6) (min (ct + 1) 6) (va_up hv nx v) v0 k0 v1 k1 oa (vp_updL of 0 ((iI (v.1 p)).toInt64)) mh m1 m2 m3 m4 m5 (va_up ss p w) (recH hi ss kn) sl tx ne (nI 0) (min (kn + 1) 6) ke le sp wr si on tw dn) := hD
  refine topE (v' := iI (v.1 p)) (q_5.trans (heq)) ?_
  refine lv_istore (lv' := [(6, .int (iI (v.1 p))), (5, .int (nI (0))), (0, .ref bq), (1, .ref (a 0)), (2, .ref mh), (3, .ref oa), (4, .int (nI (i)))]) hx hb dL_law_227 hl (by decide) rfl (fun ls hl => ?_)
  refine lv_aload_n hx hb dL_law_229 rfl (lv_at hl 4 rfl) ?_
  refine kPi (va_runV (As := []) (rest := []) ⟨hx, hb, hml, hown, hts⟩ (c_X9_thrown mh m1 m2 m3 m4 m5 (va_up ss p w) (recH hi ss kn) sl tx ne (nI (0)) (min (kn + 1) 6) ke le sp wr si on tw dn (PP_r hP)) (cwV 0 hts gL_law_X9_thrown rfl rfl rfl (by decide +kernel) ⟨(Nat.le_of_ble_eq_true rfl), (Nat.le_of_ble_eq_true rfl)⟩) (preV hC hS hLo (PP_r hP) (ci := 8) (q0 := 0) rfl rfl) rfl rfl hl.1 rfl (lv_room (Nat.le_of_ble_eq_true rfl)) dL_law_230 ⟨by show c0 + _ ≤ 601024; omega, by show s0 + _ ≤ 7293034; omega⟩) hS (fun locs hS => ?_)
  refine lv_iload hx hb dL_law_233 (lv_at hl 1 rfl) ?_
  refine lv_icmp_eq (tgt := 240) hx hb dL_law_235 (by decide) (fun c_7 => ?_) (fun c_7 => ?_)
  · have f_8 := c_7
    refine lv_iload hx hb dL_law_240 (lv_at hl 1 rfl) ?_
    refine lv_if_ne (tgt := 257) hx hb dL_law_242 (by decide) (fun c_9 => ?_) (fun c_9 => ?_)
    · have f_10 : ¬ (0 : Int) = (0 : Int) := fun z => c_9 ((c_eq (nI_toInt (n := 0) (by omega)) rfl).mpr z)
      exfalso; omega
    · have f_11 : (0 : Int) = (0 : Int) := (c_eq (nI_toInt (n := 0) (by omega)) rfl).mp c_9
      refine lv_aload_n hx hb dL_law_245 rfl (lv_at hl 5 rfl) ?_
      refine lv_iconst (v := nI (0)) hx hb dL_law_246 (by decide) ?_
      refine gLald (j := 0) hx hb hC.K (PP_r (PP_l hP)) 0 4 rfl rfl rfl (by decide) (by decide) dL_law_247 ?_
      refine W.eq (g2 := F0 m 248 ls [.long ((iI (v.1 p)).toInt64)]) rfl ?_
      refine lv_iload hx hb dL_law_248 (lv_at hl 0 rfl) ?_
      refine lv_i2l (v := (iI (v.1 p)).toInt64) hx hb dL_law_250 (rfl) ?_
      refine W.lcmp hx hb dL_law_251 ?_
      refine topE (v' := nI (0)) (lg_self _) ?_
      refine lv_if_eq (tgt := 257) hx hb dL_law_252 (by decide) (fun c_12 => ?_) (fun c_12 => ?_)
      · have f_13 : (0 : Int) = (0 : Int) := (c_eq (nI_toInt (n := 0) (by omega)) rfl).mp c_12
        refine lv_goto (tgt := 1768) hx hb dL_law_257 (by decide) ?_
        exact hk H locs ls hP hD hS (lv_sub hl [2, 3, 4, 5, 6] rfl)
      · have f_14 : ¬ (0 : Int) = (0 : Int) := fun z => c_12 ((c_eq (nI_toInt (n := 0) (by omega)) rfl).mpr z)
        exfalso; omega
  · have f_15 := c_7
    exact absurd rfl f_15

set_option maxHeartbeats 4000000 in
set_option maxRecDepth 100000 in
theorem lw_0_x1 {pg : Program} {l : Launch} {ev : Env} {s : State} {m : MethodId} {below : List Frame} {meth : Method} {c : Code} {Q : State → Prop} {G : GT} {bq L : Nat} {xs : Nat → Int32} (hLK : LK pg l s m meth c bq L xs G) (c0 s0 : Nat) (hroom : c0 + 1 ≤ 601024 ∧ s0 + 6 ≤ 7293034) (a : Nat → Nat) (v : SVT) (mo ki : Nat → Nat) (pr df : Nat → Int) (co : Int32) (bi : Nat) (g9 : Nat → Int32) (lr : Nat) (bf : Nat → Int) (tn : Nat → Nat) (ln nx ct : Nat) (hv : Nat → SVT) (v0 : SVT) (k0 : Nat) (v1 : SVT) (k1 : Nat) (oa : Nat) (of : Nat → Int64) (mh m1 m2 m3 m4 m5 : Nat) (ss hi sl : Nat → Int) (tx : Nat → Nat) (ne : Nat → Int) (th : Int32) (kn ke le : Nat) (sp wr si on tw dn : Int32) (i : Nat) (p x0 : Int32) (hi5 : i + 5 ≤ L) (ha1 : xs (i + 1) = p) (ha2 : xs (i + 2) = x0) (hbad : p.toInt < 0 ∨ 64 ≤ p.toInt) {H : Heap} {locs : List Loc} {ls : Array Slot} (hP : PP G (lwW G a v mo ki pr df co bi g9 lr bf tn ln nx ct hv v0 k0 v1 k1 oa of mh m1 m2 m3 m4 m5 ss hi sl tx ne th kn ke le sp wr si on tw dn) H) (hD : va_D (lo G) (lwW G a v mo ki pr df co bi g9 lr bf tn ln nx ct hv v0 k0 v1 k1 oa of mh m1 m2 m3 m4 m5 ss hi sl tx ne th kn ke le sp wr si on tw dn)) (hS : va_S (lo G) s.heap H locs) (hl : lv_has ls 7 [(0, .ref bq), (1, .ref (a 0)), (2, .ref mh), (3, .ref oa), (4, .int (nI (i)))])
    (hk : ∀ (H : Heap) (locs : List Loc) (ls : Array Slot), PP G (lwW G a v mo ki pr df co bi g9 lr bf tn ln nx ct hv v0 k0 v1 k1 oa of mh m1 m2 m3 m4 m5 ss hi sl tx ne (nI 1) kn ke le sp wr si on tw dn) H → va_D (lo G) (lwW G a v mo ki pr df co bi g9 lr bf tn ln nx ct hv v0 k0 v1 k1 oa of mh m1 m2 m3 m4 m5 ss hi sl tx ne (nI 1) kn ke le sp wr si on tw dn) → va_S (lo G) s.heap H locs → lv_has ls 7 [(0, .ref bq), (1, .ref (a 0)), (2, .ref mh), (3, .ref oa), (4, .int (nI (i)))] → W pg l ev room_1 s m #[Value.ref bq] below meth c H locs (c0 + 1) (s0 + 6) Q (F0 m 1768 ls [])) :
    W pg l ev room_1 s m #[Value.ref bq] below meth c H locs c0 s0 Q (F0 m 192 ls []) := by
  obtain ⟨hx, hb, hml, hown, hts, hX, hbl, hCX, hgB, hfl, hL9⟩ := hLK
  have hC := hCX.1
  have hLo : ∀ q, lo G q → lo G q := fun _ h => h
  have hA : ∀ q, s.heap.size ≤ q → lo G q := fun q h => by show gB G ≤ q; rw [hgB]; exact h
  have hbA : ¬ lo G bq := by show ¬ gB G ≤ bq; rw [hgB]; omega
  refine lv_aload_n hx hb dL_law_192 rfl (lv_at hl 1 rfl) ?_
  refine lv_aload_n hx hb dL_law_193 rfl (lv_at hl 0 rfl) ?_
  refine lv_iload hx hb dL_law_194 (lv_at hl 4 rfl) ?_
  refine lv_iconst (v := nI (1)) hx hb dL_law_196 (by decide) ?_
  refine gAdd (z := nI (i + 1)) hx hb dL_law_197 (nI_add _ _) ?_
  refine gScr (i := i + 1) (v := p) hx hb hX hbl hbA hS (by omega) hL9 ha1 dL_law_198 ?_
  refine lv_aload_n hx hb dL_law_199 rfl (lv_at hl 0 rfl) ?_
  refine lv_iload hx hb dL_law_200 (lv_at hl 4 rfl) ?_
  refine lv_iconst (v := nI (2)) hx hb dL_law_202 (by decide) ?_
  refine gAdd (z := nI (i + 2)) hx hb dL_law_203 (nI_add _ _) ?_
  refine gScr (i := i + 2) (v := x0) hx hb hX hbl hbA hS (by omega) hL9 ha2 dL_law_204 ?_
  refine lv_aload_n hx hb dL_law_205 rfl (lv_at hl 3 rfl) ?_
  refine kPreI (vx_runSW (As := [.ref (a 0), .int (p), .int (x0), .ref oa]) (rest := []) ⟨hx, hb, hml, hown, hts⟩ (c_L_draw_1 a v mo ki pr df co bi g9 lr bf tn ln nx ct hv v0 k0 v1 k1 oa of p x0 (hbad) hfl (PP_l hP) ((pre_D hD).weaken (fun _ _ _ h => hLo _ h))) (vx_cwSW 4 hts gL_law_L_draw rfl rfl rfl (by decide +kernel) ⟨(Nat.le_of_ble_eq_true rfl), (Nat.le_of_ble_eq_true rfl)⟩) (preSX hCX hS hLo) rfl rfl hl.1 rfl (lv_room (Nat.le_of_ble_eq_true rfl)) dL_law_206 ⟨by show c0 + _ ≤ 601024; omega, by show s0 + _ ≤ 7293034; omega⟩) hP hD hS hA (fun _ => lw_fst) (fun r_3 u_1 H locs q_2 hP hD hS => ?_)
  have hP : PP G (lwW G a v mo ki pr df co bi g9 lr bf tn ln nx ct hv v0 k0 v1 k1 oa of mh m1 m2 m3 m4 m5 ss hi sl tx ne th kn ke le sp wr si on tw dn) H := hP
  have hD : va_D (lo G) (lwW G a v mo ki pr df co bi g9 lr bf tn ln nx ct hv v0 k0 v1 k1 oa of mh m1 m2 m3 m4 m5 ss hi sl tx ne th kn ke le sp wr si on tw dn) := hD
  refine topE (v' := nI (1)) (q_2) ?_
  refine lv_istore (lv' := [(5, .int (nI (1))), (0, .ref bq), (1, .ref (a 0)), (2, .ref mh), (3, .ref oa), (4, .int (nI (i)))]) hx hb dL_law_209 hl (by decide) rfl (fun ls hl => ?_)
  refine lv_aload_n hx hb dL_law_211 rfl (lv_at hl 3 rfl) ?_
  refine lv_aload_n hx hb dL_law_212 rfl (lv_at hl 1 rfl) ?_
  refine lv_iload hx hb dL_law_213 (lv_at hl 5 rfl) ?_
  refine lv_iconst (v := nI (1)) hx hb dL_law_215 (by decide) ?_
  refine gAdd (z := nI (i + 1)) hx hb dL_law_216 (nI_add _ _) ?_
  refine gScr (i := i + 1) (v := p) hx hb hX hbl hbA hS (by omega) hL9 ha1 dL_law_217 ?_
  refine lv_aload_n hx hb dL_law_218 rfl (lv_at hl 1 rfl) ?_
  refine lv_iload hx hb dL_law_219 (lv_at hl 5 rfl) ?_
  refine lv_iconst (v := nI (2)) hx hb dL_law_221 (by decide) ?_
  refine gAdd (z := nI (i + 2)) hx hb dL_law_222 (nI_add _ _) ?_
  refine gScr (i := i + 2) (v := x0) hx hb hX hbl hbA hS (by omega) hL9 ha2 dL_law_223 ?_
  refine kSufI (va_runV (As := [.int (p), .int (x0)]) (rest := []) ⟨hx, hb, hml, hown, hts⟩ (c_X9_draw_1 mh m1 m2 m3 m4 m5 ss hi sl tx ne th kn ke le sp wr si on tw dn p x0 (hbad) (PP_r hP) ((pre_D (va_D_swap hD)).weaken (fun _ _ _ h => hLo _ h))) (cwV 2 hts gL_law_X9_draw rfl rfl rfl (by decide +kernel) ⟨(Nat.le_of_ble_eq_true rfl), (Nat.le_of_ble_eq_true rfl)⟩) (preV hC hS hLo (PP_r hP) (ci := 8) (q0 := 0) rfl rfl) rfl rfl hl.1 rfl (lv_room (Nat.le_of_ble_eq_true rfl)) dL_law_224 ⟨by show c0 + _ ≤ 601024; omega, by show s0 + _ ≤ 7293034; omega⟩) hP hD hS hA (fun _ => rfl) (fun r_6 u_4 H locs q_5 hP hD hS => ?_)
  have hP : PP G (lwW G a v mo ki pr df co bi g9 lr bf tn ln nx ct hv v0 k0 v1 k1 oa of mh m1 m2 m3 m4 m5 ss hi sl tx ne (nI 1) kn ke le sp wr si on tw dn) H := hP
  have hD : va_D (lo G) (lwW G a v mo ki pr df co bi g9 lr bf tn ln nx ct hv v0 k0 v1 k1 oa of mh m1 m2 m3 m4 m5 ss hi sl tx ne (nI 1) kn ke le sp wr si on tw dn) := hD
  refine topE (v' := nI (0)) (q_5) ?_
  refine lv_istore (lv' := [(6, .int (nI (0))), (5, .int (nI (1))), (0, .ref bq), (1, .ref (a 0)), (2, .ref mh), (3, .ref oa), (4, .int (nI (i)))]) hx hb dL_law_227 hl (by decide) rfl (fun ls hl => ?_)
  refine lv_aload_n hx hb dL_law_229 rfl (lv_at hl 4 rfl) ?_
  refine kPi (va_runV (As := []) (rest := []) ⟨hx, hb, hml, hown, hts⟩ (c_X9_thrown mh m1 m2 m3 m4 m5 ss hi sl tx ne (nI (1)) kn ke le sp wr si on tw dn (PP_r hP)) (cwV 0 hts gL_law_X9_thrown rfl rfl rfl (by decide +kernel) ⟨(Nat.le_of_ble_eq_true rfl), (Nat.le_of_ble_eq_true rfl)⟩) (preV hC hS hLo (PP_r hP) (ci := 8) (q0 := 0) rfl rfl) rfl rfl hl.1 rfl (lv_room (Nat.le_of_ble_eq_true rfl)) dL_law_230 ⟨by show c0 + _ ≤ 601024; omega, by show s0 + _ ≤ 7293034; omega⟩) hS (fun locs hS => ?_)
  refine lv_iload hx hb dL_law_233 (lv_at hl 1 rfl) ?_
  refine lv_icmp_eq (tgt := 240) hx hb dL_law_235 (by decide) (fun c_7 => ?_) (fun c_7 => ?_)
  · have f_8 := c_7
    refine lv_iload hx hb dL_law_240 (lv_at hl 1 rfl) ?_
    refine lv_if_ne (tgt := 257) hx hb dL_law_242 (by decide) (fun c_9 => ?_) (fun c_9 => ?_)
    · have f_10 : ¬ (1 : Int) = (0 : Int) := fun z => c_9 ((c_eq (nI_toInt (n := 1) (by omega)) rfl).mpr z)
      refine lv_goto (tgt := 1768) hx hb dL_law_257 (by decide) ?_
      exact hk H locs ls hP hD hS (lv_sub hl [2, 3, 4, 5, 6] rfl)
    · have f_11 : (1 : Int) = (0 : Int) := (c_eq (nI_toInt (n := 1) (by omega)) rfl).mp c_9
      exfalso; omega
  · have f_12 := c_7
    exact absurd rfl f_12

set_option maxHeartbeats 4000000 in
set_option maxRecDepth 100000 in
theorem lw_0_x2 {pg : Program} {l : Launch} {ev : Env} {s : State} {m : MethodId} {below : List Frame} {meth : Method} {c : Code} {Q : State → Prop} {G : GT} {bq L : Nat} {xs : Nat → Int32} (hLK : LK pg l s m meth c bq L xs G) (c0 s0 : Nat) (hroom : c0 + 1 ≤ 601024 ∧ s0 + 6 ≤ 7293034) (a : Nat → Nat) (v : SVT) (mo ki : Nat → Nat) (pr df : Nat → Int) (co : Int32) (bi : Nat) (g9 : Nat → Int32) (lr : Nat) (bf : Nat → Int) (tn : Nat → Nat) (ln nx ct : Nat) (hv : Nat → SVT) (v0 : SVT) (k0 : Nat) (v1 : SVT) (k1 : Nat) (oa : Nat) (of : Nat → Int64) (mh m1 m2 m3 m4 m5 : Nat) (ss hi sl : Nat → Int) (tx : Nat → Nat) (ne : Nat → Int) (th : Int32) (kn ke le : Nat) (sp wr si on tw dn : Int32) (i : Nat) (p : Nat) (w : Int32) (hi5 : i + 5 ≤ L) (ha1 : xs (i + 1) = nI (p)) (ha2 : xs (i + 2) = w) (hp : p < 64) (hbad : w.toInt < 0 ∨ 15 < w.toInt) {H : Heap} {locs : List Loc} {ls : Array Slot} (hP : PP G (lwW G a v mo ki pr df co bi g9 lr bf tn ln nx ct hv v0 k0 v1 k1 oa of mh m1 m2 m3 m4 m5 ss hi sl tx ne th kn ke le sp wr si on tw dn) H) (hD : va_D (lo G) (lwW G a v mo ki pr df co bi g9 lr bf tn ln nx ct hv v0 k0 v1 k1 oa of mh m1 m2 m3 m4 m5 ss hi sl tx ne th kn ke le sp wr si on tw dn)) (hS : va_S (lo G) s.heap H locs) (hl : lv_has ls 7 [(0, .ref bq), (1, .ref (a 0)), (2, .ref mh), (3, .ref oa), (4, .int (nI (i)))])
    (hk : ∀ (H : Heap) (locs : List Loc) (ls : Array Slot), PP G (lwW G a v mo ki pr df co bi g9 lr bf tn ln nx ct hv v0 k0 v1 k1 oa of mh m1 m2 m3 m4 m5 ss hi sl tx ne (nI 2) kn ke le sp wr si on tw dn) H → va_D (lo G) (lwW G a v mo ki pr df co bi g9 lr bf tn ln nx ct hv v0 k0 v1 k1 oa of mh m1 m2 m3 m4 m5 ss hi sl tx ne (nI 2) kn ke le sp wr si on tw dn) → va_S (lo G) s.heap H locs → lv_has ls 7 [(0, .ref bq), (1, .ref (a 0)), (2, .ref mh), (3, .ref oa), (4, .int (nI (i)))] → W pg l ev room_1 s m #[Value.ref bq] below meth c H locs (c0 + 1) (s0 + 6) Q (F0 m 1768 ls [])) :
    W pg l ev room_1 s m #[Value.ref bq] below meth c H locs c0 s0 Q (F0 m 192 ls []) := by
  obtain ⟨hx, hb, hml, hown, hts, hX, hbl, hCX, hgB, hfl, hL9⟩ := hLK
  have hC := hCX.1
  have hLo : ∀ q, lo G q → lo G q := fun _ h => h
  have hA : ∀ q, s.heap.size ≤ q → lo G q := fun q h => by show gB G ≤ q; rw [hgB]; exact h
  have hbA : ¬ lo G bq := by show ¬ gB G ≤ bq; rw [hgB]; omega
  refine lv_aload_n hx hb dL_law_192 rfl (lv_at hl 1 rfl) ?_
  refine lv_aload_n hx hb dL_law_193 rfl (lv_at hl 0 rfl) ?_
  refine lv_iload hx hb dL_law_194 (lv_at hl 4 rfl) ?_
  refine lv_iconst (v := nI (1)) hx hb dL_law_196 (by decide) ?_
  refine gAdd (z := nI (i + 1)) hx hb dL_law_197 (nI_add _ _) ?_
  refine gScr (i := i + 1) (v := nI (p)) hx hb hX hbl hbA hS (by omega) hL9 ha1 dL_law_198 ?_
  refine lv_aload_n hx hb dL_law_199 rfl (lv_at hl 0 rfl) ?_
  refine lv_iload hx hb dL_law_200 (lv_at hl 4 rfl) ?_
  refine lv_iconst (v := nI (2)) hx hb dL_law_202 (by decide) ?_
  refine gAdd (z := nI (i + 2)) hx hb dL_law_203 (nI_add _ _) ?_
  refine gScr (i := i + 2) (v := w) hx hb hX hbl hbA hS (by omega) hL9 ha2 dL_law_204 ?_
  refine lv_aload_n hx hb dL_law_205 rfl (lv_at hl 3 rfl) ?_
  refine kPreI (vx_runSW (As := [.ref (a 0), .int (nI (p)), .int (w), .ref oa]) (rest := []) ⟨hx, hb, hml, hown, hts⟩ (c_L_draw_2 a v mo ki pr df co bi g9 lr bf tn ln nx ct hv v0 k0 v1 k1 oa of p w (hp) (hbad) hfl (PP_l hP) ((pre_D hD).weaken (fun _ _ _ h => hLo _ h))) (vx_cwSW 4 hts gL_law_L_draw rfl rfl rfl (by decide +kernel) ⟨(Nat.le_of_ble_eq_true rfl), (Nat.le_of_ble_eq_true rfl)⟩) (preSX hCX hS hLo) rfl rfl hl.1 rfl (lv_room (Nat.le_of_ble_eq_true rfl)) dL_law_206 ⟨by show c0 + _ ≤ 601024; omega, by show s0 + _ ≤ 7293034; omega⟩) hP hD hS hA (fun _ => lw_fst) (fun r_3 u_1 H locs q_2 hP hD hS => ?_)
  have hP : PP G (lwW G a v mo ki pr df co bi g9 lr bf tn ln nx ct hv v0 k0 v1 k1 oa of mh m1 m2 m3 m4 m5 ss hi sl tx ne th kn ke le sp wr si on tw dn) H := hP
  have hD : va_D (lo G) (lwW G a v mo ki pr df co bi g9 lr bf tn ln nx ct hv v0 k0 v1 k1 oa of mh m1 m2 m3 m4 m5 ss hi sl tx ne th kn ke le sp wr si on tw dn) := hD
  refine topE (v' := nI (2)) (q_2) ?_
  refine lv_istore (lv' := [(5, .int (nI (2))), (0, .ref bq), (1, .ref (a 0)), (2, .ref mh), (3, .ref oa), (4, .int (nI (i)))]) hx hb dL_law_209 hl (by decide) rfl (fun ls hl => ?_)
  refine lv_aload_n hx hb dL_law_211 rfl (lv_at hl 3 rfl) ?_
  refine lv_aload_n hx hb dL_law_212 rfl (lv_at hl 1 rfl) ?_
  refine lv_iload hx hb dL_law_213 (lv_at hl 5 rfl) ?_
  refine lv_iconst (v := nI (1)) hx hb dL_law_215 (by decide) ?_
  refine gAdd (z := nI (i + 1)) hx hb dL_law_216 (nI_add _ _) ?_
  refine gScr (i := i + 1) (v := nI (p)) hx hb hX hbl hbA hS (by omega) hL9 ha1 dL_law_217 ?_
  refine lv_aload_n hx hb dL_law_218 rfl (lv_at hl 1 rfl) ?_
  refine lv_iload hx hb dL_law_219 (lv_at hl 5 rfl) ?_
  refine lv_iconst (v := nI (2)) hx hb dL_law_221 (by decide) ?_
  refine gAdd (z := nI (i + 2)) hx hb dL_law_222 (nI_add _ _) ?_
  refine gScr (i := i + 2) (v := w) hx hb hX hbl hbA hS (by omega) hL9 ha2 dL_law_223 ?_
  refine kSufI (va_runV (As := [.int (nI (p)), .int (w)]) (rest := []) ⟨hx, hb, hml, hown, hts⟩ (c_X9_draw_2 mh m1 m2 m3 m4 m5 ss hi sl tx ne th kn ke le sp wr si on tw dn p w (hp) (hbad) (PP_r hP) ((pre_D (va_D_swap hD)).weaken (fun _ _ _ h => hLo _ h))) (cwV 2 hts gL_law_X9_draw rfl rfl rfl (by decide +kernel) ⟨(Nat.le_of_ble_eq_true rfl), (Nat.le_of_ble_eq_true rfl)⟩) (preV hC hS hLo (PP_r hP) (ci := 8) (q0 := 0) rfl rfl) rfl rfl hl.1 rfl (lv_room (Nat.le_of_ble_eq_true rfl)) dL_law_224 ⟨by show c0 + _ ≤ 601024; omega, by show s0 + _ ≤ 7293034; omega⟩) hP hD hS hA (fun _ => rfl) (fun r_6 u_4 H locs q_5 hP hD hS => ?_)
  have hP : PP G (lwW G a v mo ki pr df co bi g9 lr bf tn ln nx ct hv v0 k0 v1 k1 oa of mh m1 m2 m3 m4 m5 ss hi sl tx ne (nI 2) kn ke le sp wr si on tw dn) H := hP
  have hD : va_D (lo G) (lwW G a v mo ki pr df co bi g9 lr bf tn ln nx ct hv v0 k0 v1 k1 oa of mh m1 m2 m3 m4 m5 ss hi sl tx ne (nI 2) kn ke le sp wr si on tw dn) := hD
  refine topE (v' := nI (0)) (q_5) ?_
  refine lv_istore (lv' := [(6, .int (nI (0))), (5, .int (nI (2))), (0, .ref bq), (1, .ref (a 0)), (2, .ref mh), (3, .ref oa), (4, .int (nI (i)))]) hx hb dL_law_227 hl (by decide) rfl (fun ls hl => ?_)
  refine lv_aload_n hx hb dL_law_229 rfl (lv_at hl 4 rfl) ?_
  refine kPi (va_runV (As := []) (rest := []) ⟨hx, hb, hml, hown, hts⟩ (c_X9_thrown mh m1 m2 m3 m4 m5 ss hi sl tx ne (nI (2)) kn ke le sp wr si on tw dn (PP_r hP)) (cwV 0 hts gL_law_X9_thrown rfl rfl rfl (by decide +kernel) ⟨(Nat.le_of_ble_eq_true rfl), (Nat.le_of_ble_eq_true rfl)⟩) (preV hC hS hLo (PP_r hP) (ci := 8) (q0 := 0) rfl rfl) rfl rfl hl.1 rfl (lv_room (Nat.le_of_ble_eq_true rfl)) dL_law_230 ⟨by show c0 + _ ≤ 601024; omega, by show s0 + _ ≤ 7293034; omega⟩) hS (fun locs hS => ?_)
  refine lv_iload hx hb dL_law_233 (lv_at hl 1 rfl) ?_
  refine lv_icmp_eq (tgt := 240) hx hb dL_law_235 (by decide) (fun c_7 => ?_) (fun c_7 => ?_)
  · have f_8 := c_7
    refine lv_iload hx hb dL_law_240 (lv_at hl 1 rfl) ?_
    refine lv_if_ne (tgt := 257) hx hb dL_law_242 (by decide) (fun c_9 => ?_) (fun c_9 => ?_)
    · have f_10 : ¬ (2 : Int) = (0 : Int) := fun z => c_9 ((c_eq (nI_toInt (n := 2) (by omega)) rfl).mpr z)
      refine lv_goto (tgt := 1768) hx hb dL_law_257 (by decide) ?_
      exact hk H locs ls hP hD hS (lv_sub hl [2, 3, 4, 5, 6] rfl)
    · have f_11 : (2 : Int) = (0 : Int) := (c_eq (nI_toInt (n := 2) (by omega)) rfl).mp c_9
      exfalso; omega
  · have f_12 := c_7
    exact absurd rfl f_12

set_option maxHeartbeats 4000000 in
set_option maxRecDepth 100000 in
theorem lw_1_ok {pg : Program} {l : Launch} {ev : Env} {s : State} {m : MethodId} {below : List Frame} {meth : Method} {c : Code} {Q : State → Prop} {G : GT} {bq L : Nat} {xs : Nat → Int32} (hLK : LK pg l s m meth c bq L xs G) (c0 s0 : Nat) (hroom : c0 + 1 ≤ 601024 ∧ s0 + 6 ≤ 7293034) (a : Nat → Nat) (v : SVT) (mo ki : Nat → Nat) (pr df : Nat → Int) (co : Int32) (bi : Nat) (g9 : Nat → Int32) (lr : Nat) (bf : Nat → Int) (tn : Nat → Nat) (ln nx ct : Nat) (hv : Nat → SVT) (v0 : SVT) (k0 : Nat) (v1 : SVT) (k1 : Nat) (oa : Nat) (of : Nat → Int64) (mh m1 m2 m3 m4 m5 : Nat) (ss hi sl : Nat → Int) (tx : Nat → Nat) (ne : Nat → Int) (th : Int32) (kn ke le : Nat) (sp wr si on tw dn : Int32) (i : Nat) (p hh ww : Nat) (w : Int) (hi5 : i + 5 ≤ L) (ha1 : xs (i + 1) = nI (p)) (ha2 : xs (i + 2) = nI (hh)) (ha3 : xs (i + 3) = nI (ww)) (ha4 : xs (i + 4) = iI (w)) (hnx : nx < 6) (hct : ct ≤ 6) (hp : p < 64) (hhh : 1 ≤ hh ∧ hh ≤ 8) (hww : 1 ≤ ww ∧ ww ≤ 8) (hw : 0 ≤ w ∧ w ≤ 15) (hd : R15 v.1) (hkn : kn ≤ 6) (hMR : MR ss) (heq : nI ((fillS ss p hh ww w).2) = nI ((fillS v.1 p hh ww w).2)) {H : Heap} {locs : List Loc} {ls : Array Slot} (hP : PP G (lwW G a v mo ki pr df co bi g9 lr bf tn ln nx ct hv v0 k0 v1 k1 oa of mh m1 m2 m3 m4 m5 ss hi sl tx ne th kn ke le sp wr si on tw dn) H) (hD : va_D (lo G) (lwW G a v mo ki pr df co bi g9 lr bf tn ln nx ct hv v0 k0 v1 k1 oa of mh m1 m2 m3 m4 m5 ss hi sl tx ne th kn ke le sp wr si on tw dn)) (hS : va_S (lo G) s.heap H locs) (hl : lv_has ls 7 [(0, .ref bq), (1, .ref (a 0)), (2, .ref mh), (3, .ref oa), (4, .int (nI (i)))])
    (hk : ∀ (H : Heap) (locs : List Loc) (ls : Array Slot), PP G (lwW G a ((fillS v.1 p hh ww w).1, v.2.1, v.2.2.1, v.2.2.2.1, v.2.2.2.2.1, v.2.2.2.2.2.1, v.2.2.2.2.2.2.1, v.2.2.2.2.2.2.2.1, v.2.2.2.2.2.2.2.2.1, v.2.2.2.2.2.2.2.2.2) mo ki pr df co bi g9 lr bf tn ln ((nx + 1) % 6) (min (ct + 1) 6) (va_up hv nx v) v0 k0 v1 k1 oa (vp_updL of 0 ((nI ((fillS v.1 p hh ww w).2)).toInt64)) mh m1 m2 m3 m4 m5 ((fillS ss p hh ww w).1) (recH hi ss kn) sl tx ne (nI 0) (min (kn + 1) 6) ke le sp wr si on tw dn) H → va_D (lo G) (lwW G a ((fillS v.1 p hh ww w).1, v.2.1, v.2.2.1, v.2.2.2.1, v.2.2.2.2.1, v.2.2.2.2.2.1, v.2.2.2.2.2.2.1, v.2.2.2.2.2.2.2.1, v.2.2.2.2.2.2.2.2.1, v.2.2.2.2.2.2.2.2.2) mo ki pr df co bi g9 lr bf tn ln ((nx + 1) % 6) (min (ct + 1) 6) (va_up hv nx v) v0 k0 v1 k1 oa (vp_updL of 0 ((nI ((fillS v.1 p hh ww w).2)).toInt64)) mh m1 m2 m3 m4 m5 ((fillS ss p hh ww w).1) (recH hi ss kn) sl tx ne (nI 0) (min (kn + 1) 6) ke le sp wr si on tw dn) → va_S (lo G) s.heap H locs → lv_has ls 7 [(0, .ref bq), (1, .ref (a 0)), (2, .ref mh), (3, .ref oa), (4, .int (nI (i)))] → W pg l ev room_1 s m #[Value.ref bq] below meth c H locs (c0 + 0) (s0 + 0) Q (F0 m 1768 ls [])) :
    W pg l ev room_1 s m #[Value.ref bq] below meth c H locs c0 s0 Q (F0 m 260 ls []) := by
  obtain ⟨hx, hb, hml, hown, hts, hX, hbl, hCX, hgB, hfl, hL9⟩ := hLK
  have hC := hCX.1
  have hLo : ∀ q, lo G q → lo G q := fun _ h => h
  have hA : ∀ q, s.heap.size ≤ q → lo G q := fun q h => by show gB G ≤ q; rw [hgB]; exact h
  have hbA : ¬ lo G bq := by show ¬ gB G ≤ bq; rw [hgB]; omega
  refine lv_aload_n hx hb dL_law_260 rfl (lv_at hl 1 rfl) ?_
  refine lv_aload_n hx hb dL_law_261 rfl (lv_at hl 0 rfl) ?_
  refine lv_iload hx hb dL_law_262 (lv_at hl 4 rfl) ?_
  refine lv_iconst (v := nI (1)) hx hb dL_law_264 (by decide) ?_
  refine gAdd (z := nI (i + 1)) hx hb dL_law_265 (nI_add _ _) ?_
  refine gScr (i := i + 1) (v := nI (p)) hx hb hX hbl hbA hS (by omega) hL9 ha1 dL_law_266 ?_
  refine lv_aload_n hx hb dL_law_267 rfl (lv_at hl 0 rfl) ?_
  refine lv_iload hx hb dL_law_268 (lv_at hl 4 rfl) ?_
  refine lv_iconst (v := nI (2)) hx hb dL_law_270 (by decide) ?_
  refine gAdd (z := nI (i + 2)) hx hb dL_law_271 (nI_add _ _) ?_
  refine gScr (i := i + 2) (v := nI (hh)) hx hb hX hbl hbA hS (by omega) hL9 ha2 dL_law_272 ?_
  refine lv_aload_n hx hb dL_law_273 rfl (lv_at hl 0 rfl) ?_
  refine lv_iload hx hb dL_law_274 (lv_at hl 4 rfl) ?_
  refine lv_iconst (v := nI (3)) hx hb dL_law_276 (by decide) ?_
  refine gAdd (z := nI (i + 3)) hx hb dL_law_277 (nI_add _ _) ?_
  refine gScr (i := i + 3) (v := nI (ww)) hx hb hX hbl hbA hS (by omega) hL9 ha3 dL_law_278 ?_
  refine lv_aload_n hx hb dL_law_279 rfl (lv_at hl 0 rfl) ?_
  refine lv_iload hx hb dL_law_280 (lv_at hl 4 rfl) ?_
  refine lv_iconst (v := nI (4)) hx hb dL_law_282 (by decide) ?_
  refine gAdd (z := nI (i + 4)) hx hb dL_law_283 (nI_add _ _) ?_
  refine gScr (i := i + 4) (v := iI (w)) hx hb hX hbl hbA hS (by omega) hL9 ha4 dL_law_284 ?_
  refine lv_aload_n hx hb dL_law_285 rfl (lv_at hl 3 rfl) ?_
  refine kPreI (vx_runSW (As := [.ref (a 0), .int (nI (p)), .int (nI (hh)), .int (nI (ww)), .int (iI (w)), .ref oa]) (rest := []) ⟨hx, hb, hml, hown, hts⟩ (c_L_fill a v mo ki pr df co bi g9 lr bf tn ln nx ct hv v0 k0 v1 k1 oa of p hh ww w (hnx) (hct) (hp) (hhh) (hww) (hw) (hd) (PP_l hP) ((pre_D hD).weaken (fun _ _ _ h => hLo _ h))) (vx_cwSW 6 hts gL_law_L_fill rfl rfl rfl (by decide +kernel) ⟨(Nat.le_of_ble_eq_true rfl), (Nat.le_of_ble_eq_true rfl)⟩) (preS hC hS hLo) rfl rfl hl.1 rfl (lv_room (Nat.le_of_ble_eq_true rfl)) dL_law_286 ⟨by show c0 + _ ≤ 601024; omega, by show s0 + _ ≤ 7293034; omega⟩) hP hD hS hA (fun _ => lw_fst) (fun r_3 u_1 H locs q_2 hP hD hS => ?_)
  have hP : PP G (lwW G a ((fillS v.1 p hh ww w).1, v.2.1, v.2.2.1, v.2.2.2.1, v.2.2.2.2.1, v.2.2.2.2.2.1, v.2.2.2.2.2.2.1, v.2.2.2.2.2.2.2.1, v.2.2.2.2.2.2.2.2.1, v.2.2.2.2.2.2.2.2.2) mo ki pr df co bi g9 lr bf tn ln ((nx + 1) % 6) (min (ct + 1) 6) (va_up hv nx v) v0 k0 v1 k1 oa (vp_updL of 0 ((nI ((fillS v.1 p hh ww w).2)).toInt64)) mh m1 m2 m3 m4 m5 ss hi sl tx ne th kn ke le sp wr si on tw dn) H := hP
  have hD : va_D (lo G) (lwW G a ((fillS v.1 p hh ww w).1, v.2.1, v.2.2.1, v.2.2.2.1, v.2.2.2.2.1, v.2.2.2.2.2.1, v.2.2.2.2.2.2.1, v.2.2.2.2.2.2.2.1, v.2.2.2.2.2.2.2.2.1, v.2.2.2.2.2.2.2.2.2) mo ki pr df co bi g9 lr bf tn ln ((nx + 1) % 6) (min (ct + 1) 6) (va_up hv nx v) v0 k0 v1 k1 oa (vp_updL of 0 ((nI ((fillS v.1 p hh ww w).2)).toInt64)) mh m1 m2 m3 m4 m5 ss hi sl tx ne th kn ke le sp wr si on tw dn) := hD
  refine topE (v' := nI (0)) (q_2) ?_
  refine lv_istore (lv' := [(5, .int (nI (0))), (0, .ref bq), (1, .ref (a 0)), (2, .ref mh), (3, .ref oa), (4, .int (nI (i)))]) hx hb dL_law_289 hl (by decide) rfl (fun ls hl => ?_)
  refine lv_aload_n hx hb dL_law_291 rfl (lv_at hl 3 rfl) ?_
  refine lv_aload_n hx hb dL_law_292 rfl (lv_at hl 1 rfl) ?_
  refine lv_iload hx hb dL_law_293 (lv_at hl 5 rfl) ?_
  refine lv_iconst (v := nI (1)) hx hb dL_law_295 (by decide) ?_
  refine gAdd (z := nI (i + 1)) hx hb dL_law_296 (nI_add _ _) ?_
  refine gScr (i := i + 1) (v := nI (p)) hx hb hX hbl hbA hS (by omega) hL9 ha1 dL_law_297 ?_
  refine lv_aload_n hx hb dL_law_298 rfl (lv_at hl 1 rfl) ?_
  refine lv_iload hx hb dL_law_299 (lv_at hl 5 rfl) ?_
  refine lv_iconst (v := nI (2)) hx hb dL_law_301 (by decide) ?_
  refine gAdd (z := nI (i + 2)) hx hb dL_law_302 (nI_add _ _) ?_
  refine gScr (i := i + 2) (v := nI (hh)) hx hb hX hbl hbA hS (by omega) hL9 ha2 dL_law_303 ?_
  refine lv_aload_n hx hb dL_law_304 rfl (lv_at hl 1 rfl) ?_
  refine lv_iload hx hb dL_law_305 (lv_at hl 5 rfl) ?_
  refine lv_iconst (v := nI (3)) hx hb dL_law_307 (by decide) ?_
  refine gAdd (z := nI (i + 3)) hx hb dL_law_308 (nI_add _ _) ?_
  refine gScr (i := i + 3) (v := nI (ww)) hx hb hX hbl hbA hS (by omega) hL9 ha3 dL_law_309 ?_
  refine lv_aload_n hx hb dL_law_310 rfl (lv_at hl 1 rfl) ?_
  refine lv_iload hx hb dL_law_311 (lv_at hl 5 rfl) ?_
  refine lv_iconst (v := nI (4)) hx hb dL_law_313 (by decide) ?_
  refine gAdd (z := nI (i + 4)) hx hb dL_law_314 (nI_add _ _) ?_
  refine gScr (i := i + 4) (v := iI (w)) hx hb hX hbl hbA hS (by omega) hL9 ha4 dL_law_315 ?_
  refine kSufI (va_runV (As := [.int (nI (p)), .int (nI (hh)), .int (nI (ww)), .int (iI (w))]) (rest := []) ⟨hx, hb, hml, hown, hts⟩ (c_X9_fill mh m1 m2 m3 m4 m5 ss hi sl tx ne th kn ke le sp wr si on tw dn p hh ww w (hkn) (hp) (hhh) (hww) (hw) (hMR) (PP_r hP) ((pre_D (va_D_swap hD)).weaken (fun _ _ _ h => hLo _ h))) (cwV 4 hts gL_law_X9_fill rfl rfl rfl (by decide +kernel) ⟨(Nat.le_of_ble_eq_true rfl), (Nat.le_of_ble_eq_true rfl)⟩) (preV hC hS hLo (PP_r hP) (ci := 8) (q0 := 0) rfl rfl) rfl rfl hl.1 rfl (lv_room (Nat.le_of_ble_eq_true rfl)) dL_law_316 ⟨by show c0 + _ ≤ 601024; omega, by show s0 + _ ≤ 7293034; omega⟩) hP hD hS hA (fun _ => rfl) (fun r_6 u_4 H locs q_5 hP hD hS => ?_)
  have hP : PP G (lwW G a ((fillS v.1 p hh ww w).1, v.2.1, v.2.2.1, v.2.2.2.1, v.2.2.2.2.1, v.2.2.2.2.2.1, v.2.2.2.2.2.2.1, v.2.2.2.2.2.2.2.1, v.2.2.2.2.2.2.2.2.1, v.2.2.2.2.2.2.2.2.2) mo ki pr df co bi g9 lr bf tn ln ((nx + 1) % 6) (min (ct + 1) 6) (va_up hv nx v) v0 k0 v1 k1 oa (vp_updL of 0 ((nI ((fillS v.1 p hh ww w).2)).toInt64)) mh m1 m2 m3 m4 m5 ((fillS ss p hh ww w).1) (recH hi ss kn) sl tx ne (nI 0) (min (kn + 1) 6) ke le sp wr si on tw dn) H := hP
  have hD : va_D (lo G) (lwW G a ((fillS v.1 p hh ww w).1, v.2.1, v.2.2.1, v.2.2.2.1, v.2.2.2.2.1, v.2.2.2.2.2.1, v.2.2.2.2.2.2.1, v.2.2.2.2.2.2.2.1, v.2.2.2.2.2.2.2.2.1, v.2.2.2.2.2.2.2.2.2) mo ki pr df co bi g9 lr bf tn ln ((nx + 1) % 6) (min (ct + 1) 6) (va_up hv nx v) v0 k0 v1 k1 oa (vp_updL of 0 ((nI ((fillS v.1 p hh ww w).2)).toInt64)) mh m1 m2 m3 m4 m5 ((fillS ss p hh ww w).1) (recH hi ss kn) sl tx ne (nI 0) (min (kn + 1) 6) ke le sp wr si on tw dn) := hD
  refine topE (v' := nI ((fillS v.1 p hh ww w).2)) (q_5.trans (heq)) ?_
  refine lv_istore (lv' := [(6, .int (nI ((fillS v.1 p hh ww w).2))), (5, .int (nI (0))), (0, .ref bq), (1, .ref (a 0)), (2, .ref mh), (3, .ref oa), (4, .int (nI (i)))]) hx hb dL_law_319 hl (by decide) rfl (fun ls hl => ?_)
  refine lv_aload_n hx hb dL_law_321 rfl (lv_at hl 4 rfl) ?_
  refine kPi (va_runV (As := []) (rest := []) ⟨hx, hb, hml, hown, hts⟩ (c_X9_thrown mh m1 m2 m3 m4 m5 ((fillS ss p hh ww w).1) (recH hi ss kn) sl tx ne (nI (0)) (min (kn + 1) 6) ke le sp wr si on tw dn (PP_r hP)) (cwV 0 hts gL_law_X9_thrown rfl rfl rfl (by decide +kernel) ⟨(Nat.le_of_ble_eq_true rfl), (Nat.le_of_ble_eq_true rfl)⟩) (preV hC hS hLo (PP_r hP) (ci := 8) (q0 := 0) rfl rfl) rfl rfl hl.1 rfl (lv_room (Nat.le_of_ble_eq_true rfl)) dL_law_322 ⟨by show c0 + _ ≤ 601024; omega, by show s0 + _ ≤ 7293034; omega⟩) hS (fun locs hS => ?_)
  refine lv_iload hx hb dL_law_325 (lv_at hl 1 rfl) ?_
  refine lv_icmp_eq (tgt := 332) hx hb dL_law_327 (by decide) (fun c_7 => ?_) (fun c_7 => ?_)
  · have f_8 := c_7
    refine lv_iload hx hb dL_law_332 (lv_at hl 1 rfl) ?_
    refine lv_if_ne (tgt := 349) hx hb dL_law_334 (by decide) (fun c_9 => ?_) (fun c_9 => ?_)
    · have f_10 : ¬ (0 : Int) = (0 : Int) := fun z => c_9 ((c_eq (nI_toInt (n := 0) (by omega)) rfl).mpr z)
      exfalso; omega
    · have f_11 : (0 : Int) = (0 : Int) := (c_eq (nI_toInt (n := 0) (by omega)) rfl).mp c_9
      refine lv_aload_n hx hb dL_law_337 rfl (lv_at hl 5 rfl) ?_
      refine lv_iconst (v := nI (0)) hx hb dL_law_338 (by decide) ?_
      refine gLald (j := 0) hx hb hC.K (PP_r (PP_l hP)) 0 4 rfl rfl rfl (by decide) (by decide) dL_law_339 ?_
      refine W.eq (g2 := F0 m 340 ls [.long ((nI ((fillS v.1 p hh ww w).2)).toInt64)]) rfl ?_
      refine lv_iload hx hb dL_law_340 (lv_at hl 0 rfl) ?_
      refine lv_i2l (v := (nI ((fillS v.1 p hh ww w).2)).toInt64) hx hb dL_law_342 (rfl) ?_
      refine W.lcmp hx hb dL_law_343 ?_
      refine topE (v' := nI (0)) (lg_self _) ?_
      refine lv_if_eq (tgt := 349) hx hb dL_law_344 (by decide) (fun c_12 => ?_) (fun c_12 => ?_)
      · have f_13 : (0 : Int) = (0 : Int) := (c_eq (nI_toInt (n := 0) (by omega)) rfl).mp c_12
        refine lv_goto (tgt := 1768) hx hb dL_law_349 (by decide) ?_
        exact hk H locs ls hP hD hS (lv_sub hl [2, 3, 4, 5, 6] rfl)
      · have f_14 : ¬ (0 : Int) = (0 : Int) := fun z => c_12 ((c_eq (nI_toInt (n := 0) (by omega)) rfl).mpr z)
        exfalso; omega
  · have f_15 := c_7
    exact absurd rfl f_15

set_option maxHeartbeats 4000000 in
set_option maxRecDepth 100000 in
theorem lw_1_x1 {pg : Program} {l : Launch} {ev : Env} {s : State} {m : MethodId} {below : List Frame} {meth : Method} {c : Code} {Q : State → Prop} {G : GT} {bq L : Nat} {xs : Nat → Int32} (hLK : LK pg l s m meth c bq L xs G) (c0 s0 : Nat) (hroom : c0 + 1 ≤ 601024 ∧ s0 + 6 ≤ 7293034) (a : Nat → Nat) (v : SVT) (mo ki : Nat → Nat) (pr df : Nat → Int) (co : Int32) (bi : Nat) (g9 : Nat → Int32) (lr : Nat) (bf : Nat → Int) (tn : Nat → Nat) (ln nx ct : Nat) (hv : Nat → SVT) (v0 : SVT) (k0 : Nat) (v1 : SVT) (k1 : Nat) (oa : Nat) (of : Nat → Int64) (mh m1 m2 m3 m4 m5 : Nat) (ss hi sl : Nat → Int) (tx : Nat → Nat) (ne : Nat → Int) (th : Int32) (kn ke le : Nat) (sp wr si on tw dn : Int32) (i : Nat) (p x0 x1 x2 : Int32) (hi5 : i + 5 ≤ L) (ha1 : xs (i + 1) = p) (ha2 : xs (i + 2) = x0) (ha3 : xs (i + 3) = x1) (ha4 : xs (i + 4) = x2) (hbad : p.toInt < 0 ∨ 64 ≤ p.toInt) {H : Heap} {locs : List Loc} {ls : Array Slot} (hP : PP G (lwW G a v mo ki pr df co bi g9 lr bf tn ln nx ct hv v0 k0 v1 k1 oa of mh m1 m2 m3 m4 m5 ss hi sl tx ne th kn ke le sp wr si on tw dn) H) (hD : va_D (lo G) (lwW G a v mo ki pr df co bi g9 lr bf tn ln nx ct hv v0 k0 v1 k1 oa of mh m1 m2 m3 m4 m5 ss hi sl tx ne th kn ke le sp wr si on tw dn)) (hS : va_S (lo G) s.heap H locs) (hl : lv_has ls 7 [(0, .ref bq), (1, .ref (a 0)), (2, .ref mh), (3, .ref oa), (4, .int (nI (i)))])
    (hk : ∀ (H : Heap) (locs : List Loc) (ls : Array Slot), PP G (lwW G a v mo ki pr df co bi g9 lr bf tn ln nx ct hv v0 k0 v1 k1 oa of mh m1 m2 m3 m4 m5 ss hi sl tx ne (nI 1) kn ke le sp wr si on tw dn) H → va_D (lo G) (lwW G a v mo ki pr df co bi g9 lr bf tn ln nx ct hv v0 k0 v1 k1 oa of mh m1 m2 m3 m4 m5 ss hi sl tx ne (nI 1) kn ke le sp wr si on tw dn) → va_S (lo G) s.heap H locs → lv_has ls 7 [(0, .ref bq), (1, .ref (a 0)), (2, .ref mh), (3, .ref oa), (4, .int (nI (i)))] → W pg l ev room_1 s m #[Value.ref bq] below meth c H locs (c0 + 1) (s0 + 6) Q (F0 m 1768 ls [])) :
    W pg l ev room_1 s m #[Value.ref bq] below meth c H locs c0 s0 Q (F0 m 260 ls []) := by
  obtain ⟨hx, hb, hml, hown, hts, hX, hbl, hCX, hgB, hfl, hL9⟩ := hLK
  have hC := hCX.1
  have hLo : ∀ q, lo G q → lo G q := fun _ h => h
  have hA : ∀ q, s.heap.size ≤ q → lo G q := fun q h => by show gB G ≤ q; rw [hgB]; exact h
  have hbA : ¬ lo G bq := by show ¬ gB G ≤ bq; rw [hgB]; omega
  refine lv_aload_n hx hb dL_law_260 rfl (lv_at hl 1 rfl) ?_
  refine lv_aload_n hx hb dL_law_261 rfl (lv_at hl 0 rfl) ?_
  refine lv_iload hx hb dL_law_262 (lv_at hl 4 rfl) ?_
  refine lv_iconst (v := nI (1)) hx hb dL_law_264 (by decide) ?_
  refine gAdd (z := nI (i + 1)) hx hb dL_law_265 (nI_add _ _) ?_
  refine gScr (i := i + 1) (v := p) hx hb hX hbl hbA hS (by omega) hL9 ha1 dL_law_266 ?_
  refine lv_aload_n hx hb dL_law_267 rfl (lv_at hl 0 rfl) ?_
  refine lv_iload hx hb dL_law_268 (lv_at hl 4 rfl) ?_
  refine lv_iconst (v := nI (2)) hx hb dL_law_270 (by decide) ?_
  refine gAdd (z := nI (i + 2)) hx hb dL_law_271 (nI_add _ _) ?_
  refine gScr (i := i + 2) (v := x0) hx hb hX hbl hbA hS (by omega) hL9 ha2 dL_law_272 ?_
  refine lv_aload_n hx hb dL_law_273 rfl (lv_at hl 0 rfl) ?_
  refine lv_iload hx hb dL_law_274 (lv_at hl 4 rfl) ?_
  refine lv_iconst (v := nI (3)) hx hb dL_law_276 (by decide) ?_
  refine gAdd (z := nI (i + 3)) hx hb dL_law_277 (nI_add _ _) ?_
  refine gScr (i := i + 3) (v := x1) hx hb hX hbl hbA hS (by omega) hL9 ha3 dL_law_278 ?_
  refine lv_aload_n hx hb dL_law_279 rfl (lv_at hl 0 rfl) ?_
  refine lv_iload hx hb dL_law_280 (lv_at hl 4 rfl) ?_
  refine lv_iconst (v := nI (4)) hx hb dL_law_282 (by decide) ?_
  refine gAdd (z := nI (i + 4)) hx hb dL_law_283 (nI_add _ _) ?_
  refine gScr (i := i + 4) (v := x2) hx hb hX hbl hbA hS (by omega) hL9 ha4 dL_law_284 ?_
  refine lv_aload_n hx hb dL_law_285 rfl (lv_at hl 3 rfl) ?_
  refine kPreI (vx_runSW (As := [.ref (a 0), .int (p), .int (x0), .int (x1), .int (x2), .ref oa]) (rest := []) ⟨hx, hb, hml, hown, hts⟩ (c_L_fill_1 a v mo ki pr df co bi g9 lr bf tn ln nx ct hv v0 k0 v1 k1 oa of p x0 x1 x2 (hbad) hfl (PP_l hP) ((pre_D hD).weaken (fun _ _ _ h => hLo _ h))) (vx_cwSW 6 hts gL_law_L_fill rfl rfl rfl (by decide +kernel) ⟨(Nat.le_of_ble_eq_true rfl), (Nat.le_of_ble_eq_true rfl)⟩) (preSX hCX hS hLo) rfl rfl hl.1 rfl (lv_room (Nat.le_of_ble_eq_true rfl)) dL_law_286 ⟨by show c0 + _ ≤ 601024; omega, by show s0 + _ ≤ 7293034; omega⟩) hP hD hS hA (fun _ => lw_fst) (fun r_3 u_1 H locs q_2 hP hD hS => ?_)
  have hP : PP G (lwW G a v mo ki pr df co bi g9 lr bf tn ln nx ct hv v0 k0 v1 k1 oa of mh m1 m2 m3 m4 m5 ss hi sl tx ne th kn ke le sp wr si on tw dn) H := hP
  have hD : va_D (lo G) (lwW G a v mo ki pr df co bi g9 lr bf tn ln nx ct hv v0 k0 v1 k1 oa of mh m1 m2 m3 m4 m5 ss hi sl tx ne th kn ke le sp wr si on tw dn) := hD
  refine topE (v' := nI (1)) (q_2) ?_
  refine lv_istore (lv' := [(5, .int (nI (1))), (0, .ref bq), (1, .ref (a 0)), (2, .ref mh), (3, .ref oa), (4, .int (nI (i)))]) hx hb dL_law_289 hl (by decide) rfl (fun ls hl => ?_)
  refine lv_aload_n hx hb dL_law_291 rfl (lv_at hl 3 rfl) ?_
  refine lv_aload_n hx hb dL_law_292 rfl (lv_at hl 1 rfl) ?_
  refine lv_iload hx hb dL_law_293 (lv_at hl 5 rfl) ?_
  refine lv_iconst (v := nI (1)) hx hb dL_law_295 (by decide) ?_
  refine gAdd (z := nI (i + 1)) hx hb dL_law_296 (nI_add _ _) ?_
  refine gScr (i := i + 1) (v := p) hx hb hX hbl hbA hS (by omega) hL9 ha1 dL_law_297 ?_
  refine lv_aload_n hx hb dL_law_298 rfl (lv_at hl 1 rfl) ?_
  refine lv_iload hx hb dL_law_299 (lv_at hl 5 rfl) ?_
  refine lv_iconst (v := nI (2)) hx hb dL_law_301 (by decide) ?_
  refine gAdd (z := nI (i + 2)) hx hb dL_law_302 (nI_add _ _) ?_
  refine gScr (i := i + 2) (v := x0) hx hb hX hbl hbA hS (by omega) hL9 ha2 dL_law_303 ?_
  refine lv_aload_n hx hb dL_law_304 rfl (lv_at hl 1 rfl) ?_
  refine lv_iload hx hb dL_law_305 (lv_at hl 5 rfl) ?_
  refine lv_iconst (v := nI (3)) hx hb dL_law_307 (by decide) ?_
  refine gAdd (z := nI (i + 3)) hx hb dL_law_308 (nI_add _ _) ?_
  refine gScr (i := i + 3) (v := x1) hx hb hX hbl hbA hS (by omega) hL9 ha3 dL_law_309 ?_
  refine lv_aload_n hx hb dL_law_310 rfl (lv_at hl 1 rfl) ?_
  refine lv_iload hx hb dL_law_311 (lv_at hl 5 rfl) ?_
  refine lv_iconst (v := nI (4)) hx hb dL_law_313 (by decide) ?_
  refine gAdd (z := nI (i + 4)) hx hb dL_law_314 (nI_add _ _) ?_
  refine gScr (i := i + 4) (v := x2) hx hb hX hbl hbA hS (by omega) hL9 ha4 dL_law_315 ?_
  refine kSufI (va_runV (As := [.int (p), .int (x0), .int (x1), .int (x2)]) (rest := []) ⟨hx, hb, hml, hown, hts⟩ (c_X9_fill_1 mh m1 m2 m3 m4 m5 ss hi sl tx ne th kn ke le sp wr si on tw dn p x0 x1 x2 (hbad) (PP_r hP) ((pre_D (va_D_swap hD)).weaken (fun _ _ _ h => hLo _ h))) (cwV 4 hts gL_law_X9_fill rfl rfl rfl (by decide +kernel) ⟨(Nat.le_of_ble_eq_true rfl), (Nat.le_of_ble_eq_true rfl)⟩) (preV hC hS hLo (PP_r hP) (ci := 8) (q0 := 0) rfl rfl) rfl rfl hl.1 rfl (lv_room (Nat.le_of_ble_eq_true rfl)) dL_law_316 ⟨by show c0 + _ ≤ 601024; omega, by show s0 + _ ≤ 7293034; omega⟩) hP hD hS hA (fun _ => rfl) (fun r_6 u_4 H locs q_5 hP hD hS => ?_)
  have hP : PP G (lwW G a v mo ki pr df co bi g9 lr bf tn ln nx ct hv v0 k0 v1 k1 oa of mh m1 m2 m3 m4 m5 ss hi sl tx ne (nI 1) kn ke le sp wr si on tw dn) H := hP
  have hD : va_D (lo G) (lwW G a v mo ki pr df co bi g9 lr bf tn ln nx ct hv v0 k0 v1 k1 oa of mh m1 m2 m3 m4 m5 ss hi sl tx ne (nI 1) kn ke le sp wr si on tw dn) := hD
  refine topE (v' := nI (0)) (q_5) ?_
  refine lv_istore (lv' := [(6, .int (nI (0))), (5, .int (nI (1))), (0, .ref bq), (1, .ref (a 0)), (2, .ref mh), (3, .ref oa), (4, .int (nI (i)))]) hx hb dL_law_319 hl (by decide) rfl (fun ls hl => ?_)
  refine lv_aload_n hx hb dL_law_321 rfl (lv_at hl 4 rfl) ?_
  refine kPi (va_runV (As := []) (rest := []) ⟨hx, hb, hml, hown, hts⟩ (c_X9_thrown mh m1 m2 m3 m4 m5 ss hi sl tx ne (nI (1)) kn ke le sp wr si on tw dn (PP_r hP)) (cwV 0 hts gL_law_X9_thrown rfl rfl rfl (by decide +kernel) ⟨(Nat.le_of_ble_eq_true rfl), (Nat.le_of_ble_eq_true rfl)⟩) (preV hC hS hLo (PP_r hP) (ci := 8) (q0 := 0) rfl rfl) rfl rfl hl.1 rfl (lv_room (Nat.le_of_ble_eq_true rfl)) dL_law_322 ⟨by show c0 + _ ≤ 601024; omega, by show s0 + _ ≤ 7293034; omega⟩) hS (fun locs hS => ?_)
  refine lv_iload hx hb dL_law_325 (lv_at hl 1 rfl) ?_
  refine lv_icmp_eq (tgt := 332) hx hb dL_law_327 (by decide) (fun c_7 => ?_) (fun c_7 => ?_)
  · have f_8 := c_7
    refine lv_iload hx hb dL_law_332 (lv_at hl 1 rfl) ?_
    refine lv_if_ne (tgt := 349) hx hb dL_law_334 (by decide) (fun c_9 => ?_) (fun c_9 => ?_)
    · have f_10 : ¬ (1 : Int) = (0 : Int) := fun z => c_9 ((c_eq (nI_toInt (n := 1) (by omega)) rfl).mpr z)
      refine lv_goto (tgt := 1768) hx hb dL_law_349 (by decide) ?_
      exact hk H locs ls hP hD hS (lv_sub hl [2, 3, 4, 5, 6] rfl)
    · have f_11 : (1 : Int) = (0 : Int) := (c_eq (nI_toInt (n := 1) (by omega)) rfl).mp c_9
      exfalso; omega
  · have f_12 := c_7
    exact absurd rfl f_12

set_option maxHeartbeats 4000000 in
set_option maxRecDepth 100000 in
theorem lw_1_x2a {pg : Program} {l : Launch} {ev : Env} {s : State} {m : MethodId} {below : List Frame} {meth : Method} {c : Code} {Q : State → Prop} {G : GT} {bq L : Nat} {xs : Nat → Int32} (hLK : LK pg l s m meth c bq L xs G) (c0 s0 : Nat) (hroom : c0 + 1 ≤ 601024 ∧ s0 + 6 ≤ 7293034) (a : Nat → Nat) (v : SVT) (mo ki : Nat → Nat) (pr df : Nat → Int) (co : Int32) (bi : Nat) (g9 : Nat → Int32) (lr : Nat) (bf : Nat → Int) (tn : Nat → Nat) (ln nx ct : Nat) (hv : Nat → SVT) (v0 : SVT) (k0 : Nat) (v1 : SVT) (k1 : Nat) (oa : Nat) (of : Nat → Int64) (mh m1 m2 m3 m4 m5 : Nat) (ss hi sl : Nat → Int) (tx : Nat → Nat) (ne : Nat → Int) (th : Int32) (kn ke le : Nat) (sp wr si on tw dn : Int32) (i : Nat) (p : Nat) (x0 x1 x2 : Int32) (hi5 : i + 5 ≤ L) (ha1 : xs (i + 1) = nI (p)) (ha2 : xs (i + 2) = x0) (ha3 : xs (i + 3) = x1) (ha4 : xs (i + 4) = x2) (hp : p < 64) (hbad : x0.toInt < 1 ∨ 8 < x0.toInt) {H : Heap} {locs : List Loc} {ls : Array Slot} (hP : PP G (lwW G a v mo ki pr df co bi g9 lr bf tn ln nx ct hv v0 k0 v1 k1 oa of mh m1 m2 m3 m4 m5 ss hi sl tx ne th kn ke le sp wr si on tw dn) H) (hD : va_D (lo G) (lwW G a v mo ki pr df co bi g9 lr bf tn ln nx ct hv v0 k0 v1 k1 oa of mh m1 m2 m3 m4 m5 ss hi sl tx ne th kn ke le sp wr si on tw dn)) (hS : va_S (lo G) s.heap H locs) (hl : lv_has ls 7 [(0, .ref bq), (1, .ref (a 0)), (2, .ref mh), (3, .ref oa), (4, .int (nI (i)))])
    (hk : ∀ (H : Heap) (locs : List Loc) (ls : Array Slot), PP G (lwW G a v mo ki pr df co bi g9 lr bf tn ln nx ct hv v0 k0 v1 k1 oa of mh m1 m2 m3 m4 m5 ss hi sl tx ne (nI 2) kn ke le sp wr si on tw dn) H → va_D (lo G) (lwW G a v mo ki pr df co bi g9 lr bf tn ln nx ct hv v0 k0 v1 k1 oa of mh m1 m2 m3 m4 m5 ss hi sl tx ne (nI 2) kn ke le sp wr si on tw dn) → va_S (lo G) s.heap H locs → lv_has ls 7 [(0, .ref bq), (1, .ref (a 0)), (2, .ref mh), (3, .ref oa), (4, .int (nI (i)))] → W pg l ev room_1 s m #[Value.ref bq] below meth c H locs (c0 + 1) (s0 + 6) Q (F0 m 1768 ls [])) :
    W pg l ev room_1 s m #[Value.ref bq] below meth c H locs c0 s0 Q (F0 m 260 ls []) := by
  obtain ⟨hx, hb, hml, hown, hts, hX, hbl, hCX, hgB, hfl, hL9⟩ := hLK
  have hC := hCX.1
  have hLo : ∀ q, lo G q → lo G q := fun _ h => h
  have hA : ∀ q, s.heap.size ≤ q → lo G q := fun q h => by show gB G ≤ q; rw [hgB]; exact h
  have hbA : ¬ lo G bq := by show ¬ gB G ≤ bq; rw [hgB]; omega
  refine lv_aload_n hx hb dL_law_260 rfl (lv_at hl 1 rfl) ?_
  refine lv_aload_n hx hb dL_law_261 rfl (lv_at hl 0 rfl) ?_
  refine lv_iload hx hb dL_law_262 (lv_at hl 4 rfl) ?_
  refine lv_iconst (v := nI (1)) hx hb dL_law_264 (by decide) ?_
  refine gAdd (z := nI (i + 1)) hx hb dL_law_265 (nI_add _ _) ?_
  refine gScr (i := i + 1) (v := nI (p)) hx hb hX hbl hbA hS (by omega) hL9 ha1 dL_law_266 ?_
  refine lv_aload_n hx hb dL_law_267 rfl (lv_at hl 0 rfl) ?_
  refine lv_iload hx hb dL_law_268 (lv_at hl 4 rfl) ?_
  refine lv_iconst (v := nI (2)) hx hb dL_law_270 (by decide) ?_
  refine gAdd (z := nI (i + 2)) hx hb dL_law_271 (nI_add _ _) ?_
  refine gScr (i := i + 2) (v := x0) hx hb hX hbl hbA hS (by omega) hL9 ha2 dL_law_272 ?_
  refine lv_aload_n hx hb dL_law_273 rfl (lv_at hl 0 rfl) ?_
  refine lv_iload hx hb dL_law_274 (lv_at hl 4 rfl) ?_
  refine lv_iconst (v := nI (3)) hx hb dL_law_276 (by decide) ?_
  refine gAdd (z := nI (i + 3)) hx hb dL_law_277 (nI_add _ _) ?_
  refine gScr (i := i + 3) (v := x1) hx hb hX hbl hbA hS (by omega) hL9 ha3 dL_law_278 ?_
  refine lv_aload_n hx hb dL_law_279 rfl (lv_at hl 0 rfl) ?_
  refine lv_iload hx hb dL_law_280 (lv_at hl 4 rfl) ?_
  refine lv_iconst (v := nI (4)) hx hb dL_law_282 (by decide) ?_
  refine gAdd (z := nI (i + 4)) hx hb dL_law_283 (nI_add _ _) ?_
  refine gScr (i := i + 4) (v := x2) hx hb hX hbl hbA hS (by omega) hL9 ha4 dL_law_284 ?_
  refine lv_aload_n hx hb dL_law_285 rfl (lv_at hl 3 rfl) ?_
  refine kPreI (vx_runSW (As := [.ref (a 0), .int (nI (p)), .int (x0), .int (x1), .int (x2), .ref oa]) (rest := []) ⟨hx, hb, hml, hown, hts⟩ (c_L_fill_2a a v mo ki pr df co bi g9 lr bf tn ln nx ct hv v0 k0 v1 k1 oa of p x0 x1 x2 (hp) (hbad) hfl (PP_l hP) ((pre_D hD).weaken (fun _ _ _ h => hLo _ h))) (vx_cwSW 6 hts gL_law_L_fill rfl rfl rfl (by decide +kernel) ⟨(Nat.le_of_ble_eq_true rfl), (Nat.le_of_ble_eq_true rfl)⟩) (preSX hCX hS hLo) rfl rfl hl.1 rfl (lv_room (Nat.le_of_ble_eq_true rfl)) dL_law_286 ⟨by show c0 + _ ≤ 601024; omega, by show s0 + _ ≤ 7293034; omega⟩) hP hD hS hA (fun _ => lw_fst) (fun r_3 u_1 H locs q_2 hP hD hS => ?_)
  have hP : PP G (lwW G a v mo ki pr df co bi g9 lr bf tn ln nx ct hv v0 k0 v1 k1 oa of mh m1 m2 m3 m4 m5 ss hi sl tx ne th kn ke le sp wr si on tw dn) H := hP
  have hD : va_D (lo G) (lwW G a v mo ki pr df co bi g9 lr bf tn ln nx ct hv v0 k0 v1 k1 oa of mh m1 m2 m3 m4 m5 ss hi sl tx ne th kn ke le sp wr si on tw dn) := hD
  refine topE (v' := nI (2)) (q_2) ?_
  refine lv_istore (lv' := [(5, .int (nI (2))), (0, .ref bq), (1, .ref (a 0)), (2, .ref mh), (3, .ref oa), (4, .int (nI (i)))]) hx hb dL_law_289 hl (by decide) rfl (fun ls hl => ?_)
  refine lv_aload_n hx hb dL_law_291 rfl (lv_at hl 3 rfl) ?_
  refine lv_aload_n hx hb dL_law_292 rfl (lv_at hl 1 rfl) ?_
  refine lv_iload hx hb dL_law_293 (lv_at hl 5 rfl) ?_
  refine lv_iconst (v := nI (1)) hx hb dL_law_295 (by decide) ?_
  refine gAdd (z := nI (i + 1)) hx hb dL_law_296 (nI_add _ _) ?_
  refine gScr (i := i + 1) (v := nI (p)) hx hb hX hbl hbA hS (by omega) hL9 ha1 dL_law_297 ?_
  refine lv_aload_n hx hb dL_law_298 rfl (lv_at hl 1 rfl) ?_
  refine lv_iload hx hb dL_law_299 (lv_at hl 5 rfl) ?_
  refine lv_iconst (v := nI (2)) hx hb dL_law_301 (by decide) ?_
  refine gAdd (z := nI (i + 2)) hx hb dL_law_302 (nI_add _ _) ?_
  refine gScr (i := i + 2) (v := x0) hx hb hX hbl hbA hS (by omega) hL9 ha2 dL_law_303 ?_
  refine lv_aload_n hx hb dL_law_304 rfl (lv_at hl 1 rfl) ?_
  refine lv_iload hx hb dL_law_305 (lv_at hl 5 rfl) ?_
  refine lv_iconst (v := nI (3)) hx hb dL_law_307 (by decide) ?_
  refine gAdd (z := nI (i + 3)) hx hb dL_law_308 (nI_add _ _) ?_
  refine gScr (i := i + 3) (v := x1) hx hb hX hbl hbA hS (by omega) hL9 ha3 dL_law_309 ?_
  refine lv_aload_n hx hb dL_law_310 rfl (lv_at hl 1 rfl) ?_
  refine lv_iload hx hb dL_law_311 (lv_at hl 5 rfl) ?_
  refine lv_iconst (v := nI (4)) hx hb dL_law_313 (by decide) ?_
  refine gAdd (z := nI (i + 4)) hx hb dL_law_314 (nI_add _ _) ?_
  refine gScr (i := i + 4) (v := x2) hx hb hX hbl hbA hS (by omega) hL9 ha4 dL_law_315 ?_
  refine kSufI (va_runV (As := [.int (nI (p)), .int (x0), .int (x1), .int (x2)]) (rest := []) ⟨hx, hb, hml, hown, hts⟩ (c_X9_fill_2a mh m1 m2 m3 m4 m5 ss hi sl tx ne th kn ke le sp wr si on tw dn p x0 x1 x2 (hp) (hbad) (PP_r hP) ((pre_D (va_D_swap hD)).weaken (fun _ _ _ h => hLo _ h))) (cwV 4 hts gL_law_X9_fill rfl rfl rfl (by decide +kernel) ⟨(Nat.le_of_ble_eq_true rfl), (Nat.le_of_ble_eq_true rfl)⟩) (preV hC hS hLo (PP_r hP) (ci := 8) (q0 := 0) rfl rfl) rfl rfl hl.1 rfl (lv_room (Nat.le_of_ble_eq_true rfl)) dL_law_316 ⟨by show c0 + _ ≤ 601024; omega, by show s0 + _ ≤ 7293034; omega⟩) hP hD hS hA (fun _ => rfl) (fun r_6 u_4 H locs q_5 hP hD hS => ?_)
  have hP : PP G (lwW G a v mo ki pr df co bi g9 lr bf tn ln nx ct hv v0 k0 v1 k1 oa of mh m1 m2 m3 m4 m5 ss hi sl tx ne (nI 2) kn ke le sp wr si on tw dn) H := hP
  have hD : va_D (lo G) (lwW G a v mo ki pr df co bi g9 lr bf tn ln nx ct hv v0 k0 v1 k1 oa of mh m1 m2 m3 m4 m5 ss hi sl tx ne (nI 2) kn ke le sp wr si on tw dn) := hD
  refine topE (v' := nI (0)) (q_5) ?_
  refine lv_istore (lv' := [(6, .int (nI (0))), (5, .int (nI (2))), (0, .ref bq), (1, .ref (a 0)), (2, .ref mh), (3, .ref oa), (4, .int (nI (i)))]) hx hb dL_law_319 hl (by decide) rfl (fun ls hl => ?_)
  refine lv_aload_n hx hb dL_law_321 rfl (lv_at hl 4 rfl) ?_
  refine kPi (va_runV (As := []) (rest := []) ⟨hx, hb, hml, hown, hts⟩ (c_X9_thrown mh m1 m2 m3 m4 m5 ss hi sl tx ne (nI (2)) kn ke le sp wr si on tw dn (PP_r hP)) (cwV 0 hts gL_law_X9_thrown rfl rfl rfl (by decide +kernel) ⟨(Nat.le_of_ble_eq_true rfl), (Nat.le_of_ble_eq_true rfl)⟩) (preV hC hS hLo (PP_r hP) (ci := 8) (q0 := 0) rfl rfl) rfl rfl hl.1 rfl (lv_room (Nat.le_of_ble_eq_true rfl)) dL_law_322 ⟨by show c0 + _ ≤ 601024; omega, by show s0 + _ ≤ 7293034; omega⟩) hS (fun locs hS => ?_)
  refine lv_iload hx hb dL_law_325 (lv_at hl 1 rfl) ?_
  refine lv_icmp_eq (tgt := 332) hx hb dL_law_327 (by decide) (fun c_7 => ?_) (fun c_7 => ?_)
  · have f_8 := c_7
    refine lv_iload hx hb dL_law_332 (lv_at hl 1 rfl) ?_
    refine lv_if_ne (tgt := 349) hx hb dL_law_334 (by decide) (fun c_9 => ?_) (fun c_9 => ?_)
    · have f_10 : ¬ (2 : Int) = (0 : Int) := fun z => c_9 ((c_eq (nI_toInt (n := 2) (by omega)) rfl).mpr z)
      refine lv_goto (tgt := 1768) hx hb dL_law_349 (by decide) ?_
      exact hk H locs ls hP hD hS (lv_sub hl [2, 3, 4, 5, 6] rfl)
    · have f_11 : (2 : Int) = (0 : Int) := (c_eq (nI_toInt (n := 2) (by omega)) rfl).mp c_9
      exfalso; omega
  · have f_12 := c_7
    exact absurd rfl f_12

set_option maxHeartbeats 4000000 in
set_option maxRecDepth 100000 in
theorem lw_1_x2b {pg : Program} {l : Launch} {ev : Env} {s : State} {m : MethodId} {below : List Frame} {meth : Method} {c : Code} {Q : State → Prop} {G : GT} {bq L : Nat} {xs : Nat → Int32} (hLK : LK pg l s m meth c bq L xs G) (c0 s0 : Nat) (hroom : c0 + 1 ≤ 601024 ∧ s0 + 6 ≤ 7293034) (a : Nat → Nat) (v : SVT) (mo ki : Nat → Nat) (pr df : Nat → Int) (co : Int32) (bi : Nat) (g9 : Nat → Int32) (lr : Nat) (bf : Nat → Int) (tn : Nat → Nat) (ln nx ct : Nat) (hv : Nat → SVT) (v0 : SVT) (k0 : Nat) (v1 : SVT) (k1 : Nat) (oa : Nat) (of : Nat → Int64) (mh m1 m2 m3 m4 m5 : Nat) (ss hi sl : Nat → Int) (tx : Nat → Nat) (ne : Nat → Int) (th : Int32) (kn ke le : Nat) (sp wr si on tw dn : Int32) (i : Nat) (p : Nat) (x0 x1 x2 : Int32) (hi5 : i + 5 ≤ L) (ha1 : xs (i + 1) = nI (p)) (ha2 : xs (i + 2) = x0) (ha3 : xs (i + 3) = x1) (ha4 : xs (i + 4) = x2) (hp : p < 64) (h0 : 1 ≤ x0.toInt ∧ x0.toInt ≤ 8) (hbad : x1.toInt < 1 ∨ 8 < x1.toInt) {H : Heap} {locs : List Loc} {ls : Array Slot} (hP : PP G (lwW G a v mo ki pr df co bi g9 lr bf tn ln nx ct hv v0 k0 v1 k1 oa of mh m1 m2 m3 m4 m5 ss hi sl tx ne th kn ke le sp wr si on tw dn) H) (hD : va_D (lo G) (lwW G a v mo ki pr df co bi g9 lr bf tn ln nx ct hv v0 k0 v1 k1 oa of mh m1 m2 m3 m4 m5 ss hi sl tx ne th kn ke le sp wr si on tw dn)) (hS : va_S (lo G) s.heap H locs) (hl : lv_has ls 7 [(0, .ref bq), (1, .ref (a 0)), (2, .ref mh), (3, .ref oa), (4, .int (nI (i)))])
    (hk : ∀ (H : Heap) (locs : List Loc) (ls : Array Slot), PP G (lwW G a v mo ki pr df co bi g9 lr bf tn ln nx ct hv v0 k0 v1 k1 oa of mh m1 m2 m3 m4 m5 ss hi sl tx ne (nI 2) kn ke le sp wr si on tw dn) H → va_D (lo G) (lwW G a v mo ki pr df co bi g9 lr bf tn ln nx ct hv v0 k0 v1 k1 oa of mh m1 m2 m3 m4 m5 ss hi sl tx ne (nI 2) kn ke le sp wr si on tw dn) → va_S (lo G) s.heap H locs → lv_has ls 7 [(0, .ref bq), (1, .ref (a 0)), (2, .ref mh), (3, .ref oa), (4, .int (nI (i)))] → W pg l ev room_1 s m #[Value.ref bq] below meth c H locs (c0 + 1) (s0 + 6) Q (F0 m 1768 ls [])) :
    W pg l ev room_1 s m #[Value.ref bq] below meth c H locs c0 s0 Q (F0 m 260 ls []) := by
  obtain ⟨hx, hb, hml, hown, hts, hX, hbl, hCX, hgB, hfl, hL9⟩ := hLK
  have hC := hCX.1
  have hLo : ∀ q, lo G q → lo G q := fun _ h => h
  have hA : ∀ q, s.heap.size ≤ q → lo G q := fun q h => by show gB G ≤ q; rw [hgB]; exact h
  have hbA : ¬ lo G bq := by show ¬ gB G ≤ bq; rw [hgB]; omega
  refine lv_aload_n hx hb dL_law_260 rfl (lv_at hl 1 rfl) ?_
  refine lv_aload_n hx hb dL_law_261 rfl (lv_at hl 0 rfl) ?_
  refine lv_iload hx hb dL_law_262 (lv_at hl 4 rfl) ?_
  refine lv_iconst (v := nI (1)) hx hb dL_law_264 (by decide) ?_
  refine gAdd (z := nI (i + 1)) hx hb dL_law_265 (nI_add _ _) ?_
  refine gScr (i := i + 1) (v := nI (p)) hx hb hX hbl hbA hS (by omega) hL9 ha1 dL_law_266 ?_
  refine lv_aload_n hx hb dL_law_267 rfl (lv_at hl 0 rfl) ?_
  refine lv_iload hx hb dL_law_268 (lv_at hl 4 rfl) ?_
  refine lv_iconst (v := nI (2)) hx hb dL_law_270 (by decide) ?_
  refine gAdd (z := nI (i + 2)) hx hb dL_law_271 (nI_add _ _) ?_
  refine gScr (i := i + 2) (v := x0) hx hb hX hbl hbA hS (by omega) hL9 ha2 dL_law_272 ?_
  refine lv_aload_n hx hb dL_law_273 rfl (lv_at hl 0 rfl) ?_
  refine lv_iload hx hb dL_law_274 (lv_at hl 4 rfl) ?_
  refine lv_iconst (v := nI (3)) hx hb dL_law_276 (by decide) ?_
  refine gAdd (z := nI (i + 3)) hx hb dL_law_277 (nI_add _ _) ?_
  refine gScr (i := i + 3) (v := x1) hx hb hX hbl hbA hS (by omega) hL9 ha3 dL_law_278 ?_
  refine lv_aload_n hx hb dL_law_279 rfl (lv_at hl 0 rfl) ?_
  refine lv_iload hx hb dL_law_280 (lv_at hl 4 rfl) ?_
  refine lv_iconst (v := nI (4)) hx hb dL_law_282 (by decide) ?_
  refine gAdd (z := nI (i + 4)) hx hb dL_law_283 (nI_add _ _) ?_
  refine gScr (i := i + 4) (v := x2) hx hb hX hbl hbA hS (by omega) hL9 ha4 dL_law_284 ?_
  refine lv_aload_n hx hb dL_law_285 rfl (lv_at hl 3 rfl) ?_
  refine kPreI (vx_runSW (As := [.ref (a 0), .int (nI (p)), .int (x0), .int (x1), .int (x2), .ref oa]) (rest := []) ⟨hx, hb, hml, hown, hts⟩ (c_L_fill_2b a v mo ki pr df co bi g9 lr bf tn ln nx ct hv v0 k0 v1 k1 oa of p x0 x1 x2 (hp) (h0) (hbad) hfl (PP_l hP) ((pre_D hD).weaken (fun _ _ _ h => hLo _ h))) (vx_cwSW 6 hts gL_law_L_fill rfl rfl rfl (by decide +kernel) ⟨(Nat.le_of_ble_eq_true rfl), (Nat.le_of_ble_eq_true rfl)⟩) (preSX hCX hS hLo) rfl rfl hl.1 rfl (lv_room (Nat.le_of_ble_eq_true rfl)) dL_law_286 ⟨by show c0 + _ ≤ 601024; omega, by show s0 + _ ≤ 7293034; omega⟩) hP hD hS hA (fun _ => lw_fst) (fun r_3 u_1 H locs q_2 hP hD hS => ?_)
  have hP : PP G (lwW G a v mo ki pr df co bi g9 lr bf tn ln nx ct hv v0 k0 v1 k1 oa of mh m1 m2 m3 m4 m5 ss hi sl tx ne th kn ke le sp wr si on tw dn) H := hP
  have hD : va_D (lo G) (lwW G a v mo ki pr df co bi g9 lr bf tn ln nx ct hv v0 k0 v1 k1 oa of mh m1 m2 m3 m4 m5 ss hi sl tx ne th kn ke le sp wr si on tw dn) := hD
  refine topE (v' := nI (2)) (q_2) ?_
  refine lv_istore (lv' := [(5, .int (nI (2))), (0, .ref bq), (1, .ref (a 0)), (2, .ref mh), (3, .ref oa), (4, .int (nI (i)))]) hx hb dL_law_289 hl (by decide) rfl (fun ls hl => ?_)
  refine lv_aload_n hx hb dL_law_291 rfl (lv_at hl 3 rfl) ?_
  refine lv_aload_n hx hb dL_law_292 rfl (lv_at hl 1 rfl) ?_
  refine lv_iload hx hb dL_law_293 (lv_at hl 5 rfl) ?_
  refine lv_iconst (v := nI (1)) hx hb dL_law_295 (by decide) ?_
  refine gAdd (z := nI (i + 1)) hx hb dL_law_296 (nI_add _ _) ?_
  refine gScr (i := i + 1) (v := nI (p)) hx hb hX hbl hbA hS (by omega) hL9 ha1 dL_law_297 ?_
  refine lv_aload_n hx hb dL_law_298 rfl (lv_at hl 1 rfl) ?_
  refine lv_iload hx hb dL_law_299 (lv_at hl 5 rfl) ?_
  refine lv_iconst (v := nI (2)) hx hb dL_law_301 (by decide) ?_
  refine gAdd (z := nI (i + 2)) hx hb dL_law_302 (nI_add _ _) ?_
  refine gScr (i := i + 2) (v := x0) hx hb hX hbl hbA hS (by omega) hL9 ha2 dL_law_303 ?_
  refine lv_aload_n hx hb dL_law_304 rfl (lv_at hl 1 rfl) ?_
  refine lv_iload hx hb dL_law_305 (lv_at hl 5 rfl) ?_
  refine lv_iconst (v := nI (3)) hx hb dL_law_307 (by decide) ?_
  refine gAdd (z := nI (i + 3)) hx hb dL_law_308 (nI_add _ _) ?_
  refine gScr (i := i + 3) (v := x1) hx hb hX hbl hbA hS (by omega) hL9 ha3 dL_law_309 ?_
  refine lv_aload_n hx hb dL_law_310 rfl (lv_at hl 1 rfl) ?_
  refine lv_iload hx hb dL_law_311 (lv_at hl 5 rfl) ?_
  refine lv_iconst (v := nI (4)) hx hb dL_law_313 (by decide) ?_
  refine gAdd (z := nI (i + 4)) hx hb dL_law_314 (nI_add _ _) ?_
  refine gScr (i := i + 4) (v := x2) hx hb hX hbl hbA hS (by omega) hL9 ha4 dL_law_315 ?_
  refine kSufI (va_runV (As := [.int (nI (p)), .int (x0), .int (x1), .int (x2)]) (rest := []) ⟨hx, hb, hml, hown, hts⟩ (c_X9_fill_2b mh m1 m2 m3 m4 m5 ss hi sl tx ne th kn ke le sp wr si on tw dn p x0 x1 x2 (hp) (h0) (hbad) (PP_r hP) ((pre_D (va_D_swap hD)).weaken (fun _ _ _ h => hLo _ h))) (cwV 4 hts gL_law_X9_fill rfl rfl rfl (by decide +kernel) ⟨(Nat.le_of_ble_eq_true rfl), (Nat.le_of_ble_eq_true rfl)⟩) (preV hC hS hLo (PP_r hP) (ci := 8) (q0 := 0) rfl rfl) rfl rfl hl.1 rfl (lv_room (Nat.le_of_ble_eq_true rfl)) dL_law_316 ⟨by show c0 + _ ≤ 601024; omega, by show s0 + _ ≤ 7293034; omega⟩) hP hD hS hA (fun _ => rfl) (fun r_6 u_4 H locs q_5 hP hD hS => ?_)
  have hP : PP G (lwW G a v mo ki pr df co bi g9 lr bf tn ln nx ct hv v0 k0 v1 k1 oa of mh m1 m2 m3 m4 m5 ss hi sl tx ne (nI 2) kn ke le sp wr si on tw dn) H := hP
  have hD : va_D (lo G) (lwW G a v mo ki pr df co bi g9 lr bf tn ln nx ct hv v0 k0 v1 k1 oa of mh m1 m2 m3 m4 m5 ss hi sl tx ne (nI 2) kn ke le sp wr si on tw dn) := hD
  refine topE (v' := nI (0)) (q_5) ?_
  refine lv_istore (lv' := [(6, .int (nI (0))), (5, .int (nI (2))), (0, .ref bq), (1, .ref (a 0)), (2, .ref mh), (3, .ref oa), (4, .int (nI (i)))]) hx hb dL_law_319 hl (by decide) rfl (fun ls hl => ?_)
  refine lv_aload_n hx hb dL_law_321 rfl (lv_at hl 4 rfl) ?_
  refine kPi (va_runV (As := []) (rest := []) ⟨hx, hb, hml, hown, hts⟩ (c_X9_thrown mh m1 m2 m3 m4 m5 ss hi sl tx ne (nI (2)) kn ke le sp wr si on tw dn (PP_r hP)) (cwV 0 hts gL_law_X9_thrown rfl rfl rfl (by decide +kernel) ⟨(Nat.le_of_ble_eq_true rfl), (Nat.le_of_ble_eq_true rfl)⟩) (preV hC hS hLo (PP_r hP) (ci := 8) (q0 := 0) rfl rfl) rfl rfl hl.1 rfl (lv_room (Nat.le_of_ble_eq_true rfl)) dL_law_322 ⟨by show c0 + _ ≤ 601024; omega, by show s0 + _ ≤ 7293034; omega⟩) hS (fun locs hS => ?_)
  refine lv_iload hx hb dL_law_325 (lv_at hl 1 rfl) ?_
  refine lv_icmp_eq (tgt := 332) hx hb dL_law_327 (by decide) (fun c_7 => ?_) (fun c_7 => ?_)
  · have f_8 := c_7
    refine lv_iload hx hb dL_law_332 (lv_at hl 1 rfl) ?_
    refine lv_if_ne (tgt := 349) hx hb dL_law_334 (by decide) (fun c_9 => ?_) (fun c_9 => ?_)
    · have f_10 : ¬ (2 : Int) = (0 : Int) := fun z => c_9 ((c_eq (nI_toInt (n := 2) (by omega)) rfl).mpr z)
      refine lv_goto (tgt := 1768) hx hb dL_law_349 (by decide) ?_
      exact hk H locs ls hP hD hS (lv_sub hl [2, 3, 4, 5, 6] rfl)
    · have f_11 : (2 : Int) = (0 : Int) := (c_eq (nI_toInt (n := 2) (by omega)) rfl).mp c_9
      exfalso; omega
  · have f_12 := c_7
    exact absurd rfl f_12

set_option maxHeartbeats 4000000 in
set_option maxRecDepth 100000 in
theorem lw_1_x2c {pg : Program} {l : Launch} {ev : Env} {s : State} {m : MethodId} {below : List Frame} {meth : Method} {c : Code} {Q : State → Prop} {G : GT} {bq L : Nat} {xs : Nat → Int32} (hLK : LK pg l s m meth c bq L xs G) (c0 s0 : Nat) (hroom : c0 + 1 ≤ 601024 ∧ s0 + 6 ≤ 7293034) (a : Nat → Nat) (v : SVT) (mo ki : Nat → Nat) (pr df : Nat → Int) (co : Int32) (bi : Nat) (g9 : Nat → Int32) (lr : Nat) (bf : Nat → Int) (tn : Nat → Nat) (ln nx ct : Nat) (hv : Nat → SVT) (v0 : SVT) (k0 : Nat) (v1 : SVT) (k1 : Nat) (oa : Nat) (of : Nat → Int64) (mh m1 m2 m3 m4 m5 : Nat) (ss hi sl : Nat → Int) (tx : Nat → Nat) (ne : Nat → Int) (th : Int32) (kn ke le : Nat) (sp wr si on tw dn : Int32) (i : Nat) (p : Nat) (x0 x1 x2 : Int32) (hi5 : i + 5 ≤ L) (ha1 : xs (i + 1) = nI (p)) (ha2 : xs (i + 2) = x0) (ha3 : xs (i + 3) = x1) (ha4 : xs (i + 4) = x2) (hp : p < 64) (h0 : 1 ≤ x0.toInt ∧ x0.toInt ≤ 8) (h1 : 1 ≤ x1.toInt ∧ x1.toInt ≤ 8) (hbad : x2.toInt < 0 ∨ 15 < x2.toInt) {H : Heap} {locs : List Loc} {ls : Array Slot} (hP : PP G (lwW G a v mo ki pr df co bi g9 lr bf tn ln nx ct hv v0 k0 v1 k1 oa of mh m1 m2 m3 m4 m5 ss hi sl tx ne th kn ke le sp wr si on tw dn) H) (hD : va_D (lo G) (lwW G a v mo ki pr df co bi g9 lr bf tn ln nx ct hv v0 k0 v1 k1 oa of mh m1 m2 m3 m4 m5 ss hi sl tx ne th kn ke le sp wr si on tw dn)) (hS : va_S (lo G) s.heap H locs) (hl : lv_has ls 7 [(0, .ref bq), (1, .ref (a 0)), (2, .ref mh), (3, .ref oa), (4, .int (nI (i)))])
    (hk : ∀ (H : Heap) (locs : List Loc) (ls : Array Slot), PP G (lwW G a v mo ki pr df co bi g9 lr bf tn ln nx ct hv v0 k0 v1 k1 oa of mh m1 m2 m3 m4 m5 ss hi sl tx ne (nI 2) kn ke le sp wr si on tw dn) H → va_D (lo G) (lwW G a v mo ki pr df co bi g9 lr bf tn ln nx ct hv v0 k0 v1 k1 oa of mh m1 m2 m3 m4 m5 ss hi sl tx ne (nI 2) kn ke le sp wr si on tw dn) → va_S (lo G) s.heap H locs → lv_has ls 7 [(0, .ref bq), (1, .ref (a 0)), (2, .ref mh), (3, .ref oa), (4, .int (nI (i)))] → W pg l ev room_1 s m #[Value.ref bq] below meth c H locs (c0 + 1) (s0 + 6) Q (F0 m 1768 ls [])) :
    W pg l ev room_1 s m #[Value.ref bq] below meth c H locs c0 s0 Q (F0 m 260 ls []) := by
  obtain ⟨hx, hb, hml, hown, hts, hX, hbl, hCX, hgB, hfl, hL9⟩ := hLK
  have hC := hCX.1
  have hLo : ∀ q, lo G q → lo G q := fun _ h => h
  have hA : ∀ q, s.heap.size ≤ q → lo G q := fun q h => by show gB G ≤ q; rw [hgB]; exact h
  have hbA : ¬ lo G bq := by show ¬ gB G ≤ bq; rw [hgB]; omega
  refine lv_aload_n hx hb dL_law_260 rfl (lv_at hl 1 rfl) ?_
  refine lv_aload_n hx hb dL_law_261 rfl (lv_at hl 0 rfl) ?_
  refine lv_iload hx hb dL_law_262 (lv_at hl 4 rfl) ?_
  refine lv_iconst (v := nI (1)) hx hb dL_law_264 (by decide) ?_
  refine gAdd (z := nI (i + 1)) hx hb dL_law_265 (nI_add _ _) ?_
  refine gScr (i := i + 1) (v := nI (p)) hx hb hX hbl hbA hS (by omega) hL9 ha1 dL_law_266 ?_
  refine lv_aload_n hx hb dL_law_267 rfl (lv_at hl 0 rfl) ?_
  refine lv_iload hx hb dL_law_268 (lv_at hl 4 rfl) ?_
  refine lv_iconst (v := nI (2)) hx hb dL_law_270 (by decide) ?_
  refine gAdd (z := nI (i + 2)) hx hb dL_law_271 (nI_add _ _) ?_
  refine gScr (i := i + 2) (v := x0) hx hb hX hbl hbA hS (by omega) hL9 ha2 dL_law_272 ?_
  refine lv_aload_n hx hb dL_law_273 rfl (lv_at hl 0 rfl) ?_
  refine lv_iload hx hb dL_law_274 (lv_at hl 4 rfl) ?_
  refine lv_iconst (v := nI (3)) hx hb dL_law_276 (by decide) ?_
  refine gAdd (z := nI (i + 3)) hx hb dL_law_277 (nI_add _ _) ?_
  refine gScr (i := i + 3) (v := x1) hx hb hX hbl hbA hS (by omega) hL9 ha3 dL_law_278 ?_
  refine lv_aload_n hx hb dL_law_279 rfl (lv_at hl 0 rfl) ?_
  refine lv_iload hx hb dL_law_280 (lv_at hl 4 rfl) ?_
  refine lv_iconst (v := nI (4)) hx hb dL_law_282 (by decide) ?_
  refine gAdd (z := nI (i + 4)) hx hb dL_law_283 (nI_add _ _) ?_
  refine gScr (i := i + 4) (v := x2) hx hb hX hbl hbA hS (by omega) hL9 ha4 dL_law_284 ?_
  refine lv_aload_n hx hb dL_law_285 rfl (lv_at hl 3 rfl) ?_
  refine kPreI (vx_runSW (As := [.ref (a 0), .int (nI (p)), .int (x0), .int (x1), .int (x2), .ref oa]) (rest := []) ⟨hx, hb, hml, hown, hts⟩ (c_L_fill_2c a v mo ki pr df co bi g9 lr bf tn ln nx ct hv v0 k0 v1 k1 oa of p x0 x1 x2 (hp) (h0) (h1) (hbad) hfl (PP_l hP) ((pre_D hD).weaken (fun _ _ _ h => hLo _ h))) (vx_cwSW 6 hts gL_law_L_fill rfl rfl rfl (by decide +kernel) ⟨(Nat.le_of_ble_eq_true rfl), (Nat.le_of_ble_eq_true rfl)⟩) (preSX hCX hS hLo) rfl rfl hl.1 rfl (lv_room (Nat.le_of_ble_eq_true rfl)) dL_law_286 ⟨by show c0 + _ ≤ 601024; omega, by show s0 + _ ≤ 7293034; omega⟩) hP hD hS hA (fun _ => lw_fst) (fun r_3 u_1 H locs q_2 hP hD hS => ?_)
  have hP : PP G (lwW G a v mo ki pr df co bi g9 lr bf tn ln nx ct hv v0 k0 v1 k1 oa of mh m1 m2 m3 m4 m5 ss hi sl tx ne th kn ke le sp wr si on tw dn) H := hP
  have hD : va_D (lo G) (lwW G a v mo ki pr df co bi g9 lr bf tn ln nx ct hv v0 k0 v1 k1 oa of mh m1 m2 m3 m4 m5 ss hi sl tx ne th kn ke le sp wr si on tw dn) := hD
  refine topE (v' := nI (2)) (q_2) ?_
  refine lv_istore (lv' := [(5, .int (nI (2))), (0, .ref bq), (1, .ref (a 0)), (2, .ref mh), (3, .ref oa), (4, .int (nI (i)))]) hx hb dL_law_289 hl (by decide) rfl (fun ls hl => ?_)
  refine lv_aload_n hx hb dL_law_291 rfl (lv_at hl 3 rfl) ?_
  refine lv_aload_n hx hb dL_law_292 rfl (lv_at hl 1 rfl) ?_
  refine lv_iload hx hb dL_law_293 (lv_at hl 5 rfl) ?_
  refine lv_iconst (v := nI (1)) hx hb dL_law_295 (by decide) ?_
  refine gAdd (z := nI (i + 1)) hx hb dL_law_296 (nI_add _ _) ?_
  refine gScr (i := i + 1) (v := nI (p)) hx hb hX hbl hbA hS (by omega) hL9 ha1 dL_law_297 ?_
  refine lv_aload_n hx hb dL_law_298 rfl (lv_at hl 1 rfl) ?_
  refine lv_iload hx hb dL_law_299 (lv_at hl 5 rfl) ?_
  refine lv_iconst (v := nI (2)) hx hb dL_law_301 (by decide) ?_
  refine gAdd (z := nI (i + 2)) hx hb dL_law_302 (nI_add _ _) ?_
  refine gScr (i := i + 2) (v := x0) hx hb hX hbl hbA hS (by omega) hL9 ha2 dL_law_303 ?_
  refine lv_aload_n hx hb dL_law_304 rfl (lv_at hl 1 rfl) ?_
  refine lv_iload hx hb dL_law_305 (lv_at hl 5 rfl) ?_
  refine lv_iconst (v := nI (3)) hx hb dL_law_307 (by decide) ?_
  refine gAdd (z := nI (i + 3)) hx hb dL_law_308 (nI_add _ _) ?_
  refine gScr (i := i + 3) (v := x1) hx hb hX hbl hbA hS (by omega) hL9 ha3 dL_law_309 ?_
  refine lv_aload_n hx hb dL_law_310 rfl (lv_at hl 1 rfl) ?_
  refine lv_iload hx hb dL_law_311 (lv_at hl 5 rfl) ?_
  refine lv_iconst (v := nI (4)) hx hb dL_law_313 (by decide) ?_
  refine gAdd (z := nI (i + 4)) hx hb dL_law_314 (nI_add _ _) ?_
  refine gScr (i := i + 4) (v := x2) hx hb hX hbl hbA hS (by omega) hL9 ha4 dL_law_315 ?_
  refine kSufI (va_runV (As := [.int (nI (p)), .int (x0), .int (x1), .int (x2)]) (rest := []) ⟨hx, hb, hml, hown, hts⟩ (c_X9_fill_2c mh m1 m2 m3 m4 m5 ss hi sl tx ne th kn ke le sp wr si on tw dn p x0 x1 x2 (hp) (h0) (h1) (hbad) (PP_r hP) ((pre_D (va_D_swap hD)).weaken (fun _ _ _ h => hLo _ h))) (cwV 4 hts gL_law_X9_fill rfl rfl rfl (by decide +kernel) ⟨(Nat.le_of_ble_eq_true rfl), (Nat.le_of_ble_eq_true rfl)⟩) (preV hC hS hLo (PP_r hP) (ci := 8) (q0 := 0) rfl rfl) rfl rfl hl.1 rfl (lv_room (Nat.le_of_ble_eq_true rfl)) dL_law_316 ⟨by show c0 + _ ≤ 601024; omega, by show s0 + _ ≤ 7293034; omega⟩) hP hD hS hA (fun _ => rfl) (fun r_6 u_4 H locs q_5 hP hD hS => ?_)
  have hP : PP G (lwW G a v mo ki pr df co bi g9 lr bf tn ln nx ct hv v0 k0 v1 k1 oa of mh m1 m2 m3 m4 m5 ss hi sl tx ne (nI 2) kn ke le sp wr si on tw dn) H := hP
  have hD : va_D (lo G) (lwW G a v mo ki pr df co bi g9 lr bf tn ln nx ct hv v0 k0 v1 k1 oa of mh m1 m2 m3 m4 m5 ss hi sl tx ne (nI 2) kn ke le sp wr si on tw dn) := hD
  refine topE (v' := nI (0)) (q_5) ?_
  refine lv_istore (lv' := [(6, .int (nI (0))), (5, .int (nI (2))), (0, .ref bq), (1, .ref (a 0)), (2, .ref mh), (3, .ref oa), (4, .int (nI (i)))]) hx hb dL_law_319 hl (by decide) rfl (fun ls hl => ?_)
  refine lv_aload_n hx hb dL_law_321 rfl (lv_at hl 4 rfl) ?_
  refine kPi (va_runV (As := []) (rest := []) ⟨hx, hb, hml, hown, hts⟩ (c_X9_thrown mh m1 m2 m3 m4 m5 ss hi sl tx ne (nI (2)) kn ke le sp wr si on tw dn (PP_r hP)) (cwV 0 hts gL_law_X9_thrown rfl rfl rfl (by decide +kernel) ⟨(Nat.le_of_ble_eq_true rfl), (Nat.le_of_ble_eq_true rfl)⟩) (preV hC hS hLo (PP_r hP) (ci := 8) (q0 := 0) rfl rfl) rfl rfl hl.1 rfl (lv_room (Nat.le_of_ble_eq_true rfl)) dL_law_322 ⟨by show c0 + _ ≤ 601024; omega, by show s0 + _ ≤ 7293034; omega⟩) hS (fun locs hS => ?_)
  refine lv_iload hx hb dL_law_325 (lv_at hl 1 rfl) ?_
  refine lv_icmp_eq (tgt := 332) hx hb dL_law_327 (by decide) (fun c_7 => ?_) (fun c_7 => ?_)
  · have f_8 := c_7
    refine lv_iload hx hb dL_law_332 (lv_at hl 1 rfl) ?_
    refine lv_if_ne (tgt := 349) hx hb dL_law_334 (by decide) (fun c_9 => ?_) (fun c_9 => ?_)
    · have f_10 : ¬ (2 : Int) = (0 : Int) := fun z => c_9 ((c_eq (nI_toInt (n := 2) (by omega)) rfl).mpr z)
      refine lv_goto (tgt := 1768) hx hb dL_law_349 (by decide) ?_
      exact hk H locs ls hP hD hS (lv_sub hl [2, 3, 4, 5, 6] rfl)
    · have f_11 : (2 : Int) = (0 : Int) := (c_eq (nI_toInt (n := 2) (by omega)) rfl).mp c_9
      exfalso; omega
  · have f_12 := c_7
    exact absurd rfl f_12

set_option maxHeartbeats 4000000 in
set_option maxRecDepth 100000 in
theorem lw_2_ok {pg : Program} {l : Launch} {ev : Env} {s : State} {m : MethodId} {below : List Frame} {meth : Method} {c : Code} {Q : State → Prop} {G : GT} {bq L : Nat} {xs : Nat → Int32} (hLK : LK pg l s m meth c bq L xs G) (c0 s0 : Nat) (hroom : c0 + 1 ≤ 601024 ∧ s0 + 6 ≤ 7293034) (a : Nat → Nat) (v : SVT) (mo ki : Nat → Nat) (pr df : Nat → Int) (co : Int32) (bi : Nat) (g9 : Nat → Int32) (lr : Nat) (bf : Nat → Int) (tn : Nat → Nat) (ln nx ct : Nat) (hv : Nat → SVT) (v0 : SVT) (k0 : Nat) (v1 : SVT) (k1 : Nat) (oa : Nat) (of : Nat → Int64) (mh m1 m2 m3 m4 m5 : Nat) (ss hi sl : Nat → Int) (tx : Nat → Nat) (ne : Nat → Int) (th : Int32) (kn ke le : Nat) (sp wr si on tw dn : Int32) (i : Nat) (dy dx : Int) (hi5 : i + 5 ≤ L) (ha1 : xs (i + 1) = iI (dy)) (ha2 : xs (i + 2) = iI (dx)) (hnx : nx < 6) (hct : ct ≤ 6) (hdy : -2 ≤ dy ∧ dy ≤ 2) (hdx : -2 ≤ dx ∧ dx ≤ 2) (hd : R15 v.1) (hkn : kn ≤ 6) (hMR : MR ss) (heq : nI ((tkm ss dy dx ss 64).2) = nI ((tkm v.1 dy dx v.1 64).2)) {H : Heap} {locs : List Loc} {ls : Array Slot} (hP : PP G (lwW G a v mo ki pr df co bi g9 lr bf tn ln nx ct hv v0 k0 v1 k1 oa of mh m1 m2 m3 m4 m5 ss hi sl tx ne th kn ke le sp wr si on tw dn) H) (hD : va_D (lo G) (lwW G a v mo ki pr df co bi g9 lr bf tn ln nx ct hv v0 k0 v1 k1 oa of mh m1 m2 m3 m4 m5 ss hi sl tx ne th kn ke le sp wr si on tw dn)) (hS : va_S (lo G) s.heap H locs) (hl : lv_has ls 7 [(0, .ref bq), (1, .ref (a 0)), (2, .ref mh), (3, .ref oa), (4, .int (nI (i)))])
    (hk : ∀ (H : Heap) (locs : List Loc) (ls : Array Slot), PP G (lwW G a ((tkm v.1 dy dx v.1 64).1, v.2.1, v.2.2.1, v.2.2.2.1, v.2.2.2.2.1, v.2.2.2.2.2.1, v.2.2.2.2.2.2.1, v.2.2.2.2.2.2.2.1, v.2.2.2.2.2.2.2.2.1, v.2.2.2.2.2.2.2.2.2) mo ki pr df co bi g9 lr v.1 tn ln ((nx + 1) % 6) (min (ct + 1) 6) (va_up hv nx v) v0 k0 v1 k1 oa (vp_updL of 0 ((nI ((tkm v.1 dy dx v.1 64).2)).toInt64)) mh m1 m2 m3 m4 m5 ((tkm ss dy dx ss 64).1) (recH hi ss kn) sl tx (neS ne ss dy dx 64) (nI 0) (min (kn + 1) 6) ke le sp wr si on tw dn) H → va_D (lo G) (lwW G a ((tkm v.1 dy dx v.1 64).1, v.2.1, v.2.2.1, v.2.2.2.1, v.2.2.2.2.1, v.2.2.2.2.2.1, v.2.2.2.2.2.2.1, v.2.2.2.2.2.2.2.1, v.2.2.2.2.2.2.2.2.1, v.2.2.2.2.2.2.2.2.2) mo ki pr df co bi g9 lr v.1 tn ln ((nx + 1) % 6) (min (ct + 1) 6) (va_up hv nx v) v0 k0 v1 k1 oa (vp_updL of 0 ((nI ((tkm v.1 dy dx v.1 64).2)).toInt64)) mh m1 m2 m3 m4 m5 ((tkm ss dy dx ss 64).1) (recH hi ss kn) sl tx (neS ne ss dy dx 64) (nI 0) (min (kn + 1) 6) ke le sp wr si on tw dn) → va_S (lo G) s.heap H locs → lv_has ls 7 [(0, .ref bq), (1, .ref (a 0)), (2, .ref mh), (3, .ref oa), (4, .int (nI (i)))] → W pg l ev room_1 s m #[Value.ref bq] below meth c H locs (c0 + 0) (s0 + 0) Q (F0 m 1768 ls [])) :
    W pg l ev room_1 s m #[Value.ref bq] below meth c H locs c0 s0 Q (F0 m 352 ls []) := by
  obtain ⟨hx, hb, hml, hown, hts, hX, hbl, hCX, hgB, hfl, hL9⟩ := hLK
  have hC := hCX.1
  have hLo : ∀ q, lo G q → lo G q := fun _ h => h
  have hA : ∀ q, s.heap.size ≤ q → lo G q := fun q h => by show gB G ≤ q; rw [hgB]; exact h
  have hbA : ¬ lo G bq := by show ¬ gB G ≤ bq; rw [hgB]; omega
  refine lv_aload_n hx hb dL_law_352 rfl (lv_at hl 1 rfl) ?_
  refine lv_aload_n hx hb dL_law_353 rfl (lv_at hl 0 rfl) ?_
  refine lv_iload hx hb dL_law_354 (lv_at hl 4 rfl) ?_
  refine lv_iconst (v := nI (1)) hx hb dL_law_356 (by decide) ?_
  refine gAdd (z := nI (i + 1)) hx hb dL_law_357 (nI_add _ _) ?_
  refine gScr (i := i + 1) (v := iI (dy)) hx hb hX hbl hbA hS (by omega) hL9 ha1 dL_law_358 ?_
  refine lv_aload_n hx hb dL_law_359 rfl (lv_at hl 0 rfl) ?_
  refine lv_iload hx hb dL_law_360 (lv_at hl 4 rfl) ?_
  refine lv_iconst (v := nI (2)) hx hb dL_law_362 (by decide) ?_
  refine gAdd (z := nI (i + 2)) hx hb dL_law_363 (nI_add _ _) ?_
  refine gScr (i := i + 2) (v := iI (dx)) hx hb hX hbl hbA hS (by omega) hL9 ha2 dL_law_364 ?_
  refine lv_aload_n hx hb dL_law_365 rfl (lv_at hl 3 rfl) ?_
  refine kPreI (vx_runSW (As := [.ref (a 0), .int (iI (dy)), .int (iI (dx)), .ref oa]) (rest := []) ⟨hx, hb, hml, hown, hts⟩ (c_L_scroll a v mo ki pr df co bi g9 lr bf tn ln nx ct hv v0 k0 v1 k1 oa of dy dx (hnx) (hct) (hdy) (hdx) (hd) (PP_l hP) ((pre_D hD).weaken (fun _ _ _ h => hLo _ h))) (vx_cwSW 4 hts gL_law_L_scroll rfl rfl rfl (by decide +kernel) ⟨(Nat.le_of_ble_eq_true rfl), (Nat.le_of_ble_eq_true rfl)⟩) (preS hC hS hLo) rfl rfl hl.1 rfl (lv_room (Nat.le_of_ble_eq_true rfl)) dL_law_366 ⟨by show c0 + _ ≤ 601024; omega, by show s0 + _ ≤ 7293034; omega⟩) hP hD hS hA (fun _ => lw_fst) (fun r_3 u_1 H locs q_2 hP hD hS => ?_)
  have hP : PP G (lwW G a ((tkm v.1 dy dx v.1 64).1, v.2.1, v.2.2.1, v.2.2.2.1, v.2.2.2.2.1, v.2.2.2.2.2.1, v.2.2.2.2.2.2.1, v.2.2.2.2.2.2.2.1, v.2.2.2.2.2.2.2.2.1, v.2.2.2.2.2.2.2.2.2) mo ki pr df co bi g9 lr v.1 tn ln ((nx + 1) % 6) (min (ct + 1) 6) (va_up hv nx v) v0 k0 v1 k1 oa (vp_updL of 0 ((nI ((tkm v.1 dy dx v.1 64).2)).toInt64)) mh m1 m2 m3 m4 m5 ss hi sl tx ne th kn ke le sp wr si on tw dn) H := hP
  have hD : va_D (lo G) (lwW G a ((tkm v.1 dy dx v.1 64).1, v.2.1, v.2.2.1, v.2.2.2.1, v.2.2.2.2.1, v.2.2.2.2.2.1, v.2.2.2.2.2.2.1, v.2.2.2.2.2.2.2.1, v.2.2.2.2.2.2.2.2.1, v.2.2.2.2.2.2.2.2.2) mo ki pr df co bi g9 lr v.1 tn ln ((nx + 1) % 6) (min (ct + 1) 6) (va_up hv nx v) v0 k0 v1 k1 oa (vp_updL of 0 ((nI ((tkm v.1 dy dx v.1 64).2)).toInt64)) mh m1 m2 m3 m4 m5 ss hi sl tx ne th kn ke le sp wr si on tw dn) := hD
  refine topE (v' := nI (0)) (q_2) ?_
  refine lv_istore (lv' := [(5, .int (nI (0))), (0, .ref bq), (1, .ref (a 0)), (2, .ref mh), (3, .ref oa), (4, .int (nI (i)))]) hx hb dL_law_369 hl (by decide) rfl (fun ls hl => ?_)
  refine lv_aload_n hx hb dL_law_371 rfl (lv_at hl 3 rfl) ?_
  refine lv_aload_n hx hb dL_law_372 rfl (lv_at hl 1 rfl) ?_
  refine lv_iload hx hb dL_law_373 (lv_at hl 5 rfl) ?_
  refine lv_iconst (v := nI (1)) hx hb dL_law_375 (by decide) ?_
  refine gAdd (z := nI (i + 1)) hx hb dL_law_376 (nI_add _ _) ?_
  refine gScr (i := i + 1) (v := iI (dy)) hx hb hX hbl hbA hS (by omega) hL9 ha1 dL_law_377 ?_
  refine lv_aload_n hx hb dL_law_378 rfl (lv_at hl 1 rfl) ?_
  refine lv_iload hx hb dL_law_379 (lv_at hl 5 rfl) ?_
  refine lv_iconst (v := nI (2)) hx hb dL_law_381 (by decide) ?_
  refine gAdd (z := nI (i + 2)) hx hb dL_law_382 (nI_add _ _) ?_
  refine gScr (i := i + 2) (v := iI (dx)) hx hb hX hbl hbA hS (by omega) hL9 ha2 dL_law_383 ?_
  refine kSufI (va_runV (As := [.int (iI (dy)), .int (iI (dx))]) (rest := []) ⟨hx, hb, hml, hown, hts⟩ (c_X9_scroll mh m1 m2 m3 m4 m5 ss hi sl tx ne th kn ke le sp wr si on tw dn dy dx (hkn) (hMR) (hdy) (hdx) (PP_r hP) ((pre_D (va_D_swap hD)).weaken (fun _ _ _ h => hLo _ h))) (cwV 2 hts gL_law_X9_scroll rfl rfl rfl (by decide +kernel) ⟨(Nat.le_of_ble_eq_true rfl), (Nat.le_of_ble_eq_true rfl)⟩) (preV hC hS hLo (PP_r hP) (ci := 8) (q0 := 0) rfl rfl) rfl rfl hl.1 rfl (lv_room (Nat.le_of_ble_eq_true rfl)) dL_law_384 ⟨by show c0 + _ ≤ 601024; omega, by show s0 + _ ≤ 7293034; omega⟩) hP hD hS hA (fun _ => rfl) (fun r_6 u_4 H locs q_5 hP hD hS => ?_)
  have hP : PP G (lwW G a ((tkm v.1 dy dx v.1 64).1, v.2.1, v.2.2.1, v.2.2.2.1, v.2.2.2.2.1, v.2.2.2.2.2.1, v.2.2.2.2.2.2.1, v.2.2.2.2.2.2.2.1, v.2.2.2.2.2.2.2.2.1, v.2.2.2.2.2.2.2.2.2) mo ki pr df co bi g9 lr v.1 tn ln ((nx + 1) % 6) (min (ct + 1) 6) (va_up hv nx v) v0 k0 v1 k1 oa (vp_updL of 0 ((nI ((tkm v.1 dy dx v.1 64).2)).toInt64)) mh m1 m2 m3 m4 m5 ((tkm ss dy dx ss 64).1) (recH hi ss kn) sl tx (neS ne ss dy dx 64) (nI 0) (min (kn + 1) 6) ke le sp wr si on tw dn) H := hP
  have hD : va_D (lo G) (lwW G a ((tkm v.1 dy dx v.1 64).1, v.2.1, v.2.2.1, v.2.2.2.1, v.2.2.2.2.1, v.2.2.2.2.2.1, v.2.2.2.2.2.2.1, v.2.2.2.2.2.2.2.1, v.2.2.2.2.2.2.2.2.1, v.2.2.2.2.2.2.2.2.2) mo ki pr df co bi g9 lr v.1 tn ln ((nx + 1) % 6) (min (ct + 1) 6) (va_up hv nx v) v0 k0 v1 k1 oa (vp_updL of 0 ((nI ((tkm v.1 dy dx v.1 64).2)).toInt64)) mh m1 m2 m3 m4 m5 ((tkm ss dy dx ss 64).1) (recH hi ss kn) sl tx (neS ne ss dy dx 64) (nI 0) (min (kn + 1) 6) ke le sp wr si on tw dn) := hD
  refine topE (v' := nI ((tkm v.1 dy dx v.1 64).2)) (q_5.trans (heq)) ?_
  refine lv_istore (lv' := [(6, .int (nI ((tkm v.1 dy dx v.1 64).2))), (5, .int (nI (0))), (0, .ref bq), (1, .ref (a 0)), (2, .ref mh), (3, .ref oa), (4, .int (nI (i)))]) hx hb dL_law_387 hl (by decide) rfl (fun ls hl => ?_)
  refine lv_aload_n hx hb dL_law_389 rfl (lv_at hl 4 rfl) ?_
  refine kPi (va_runV (As := []) (rest := []) ⟨hx, hb, hml, hown, hts⟩ (c_X9_thrown mh m1 m2 m3 m4 m5 ((tkm ss dy dx ss 64).1) (recH hi ss kn) sl tx (neS ne ss dy dx 64) (nI (0)) (min (kn + 1) 6) ke le sp wr si on tw dn (PP_r hP)) (cwV 0 hts gL_law_X9_thrown rfl rfl rfl (by decide +kernel) ⟨(Nat.le_of_ble_eq_true rfl), (Nat.le_of_ble_eq_true rfl)⟩) (preV hC hS hLo (PP_r hP) (ci := 8) (q0 := 0) rfl rfl) rfl rfl hl.1 rfl (lv_room (Nat.le_of_ble_eq_true rfl)) dL_law_390 ⟨by show c0 + _ ≤ 601024; omega, by show s0 + _ ≤ 7293034; omega⟩) hS (fun locs hS => ?_)
  refine lv_iload hx hb dL_law_393 (lv_at hl 1 rfl) ?_
  refine lv_icmp_eq (tgt := 400) hx hb dL_law_395 (by decide) (fun c_7 => ?_) (fun c_7 => ?_)
  · have f_8 := c_7
    refine lv_iload hx hb dL_law_400 (lv_at hl 1 rfl) ?_
    refine lv_if_ne (tgt := 417) hx hb dL_law_402 (by decide) (fun c_9 => ?_) (fun c_9 => ?_)
    · have f_10 : ¬ (0 : Int) = (0 : Int) := fun z => c_9 ((c_eq (nI_toInt (n := 0) (by omega)) rfl).mpr z)
      exfalso; omega
    · have f_11 : (0 : Int) = (0 : Int) := (c_eq (nI_toInt (n := 0) (by omega)) rfl).mp c_9
      refine lv_aload_n hx hb dL_law_405 rfl (lv_at hl 5 rfl) ?_
      refine lv_iconst (v := nI (0)) hx hb dL_law_406 (by decide) ?_
      refine gLald (j := 0) hx hb hC.K (PP_r (PP_l hP)) 0 4 rfl rfl rfl (by decide) (by decide) dL_law_407 ?_
      refine W.eq (g2 := F0 m 408 ls [.long ((nI ((tkm v.1 dy dx v.1 64).2)).toInt64)]) rfl ?_
      refine lv_iload hx hb dL_law_408 (lv_at hl 0 rfl) ?_
      refine lv_i2l (v := (nI ((tkm v.1 dy dx v.1 64).2)).toInt64) hx hb dL_law_410 (rfl) ?_
      refine W.lcmp hx hb dL_law_411 ?_
      refine topE (v' := nI (0)) (lg_self _) ?_
      refine lv_if_eq (tgt := 417) hx hb dL_law_412 (by decide) (fun c_12 => ?_) (fun c_12 => ?_)
      · have f_13 : (0 : Int) = (0 : Int) := (c_eq (nI_toInt (n := 0) (by omega)) rfl).mp c_12
        refine lv_goto (tgt := 1768) hx hb dL_law_417 (by decide) ?_
        exact hk H locs ls hP hD hS (lv_sub hl [2, 3, 4, 5, 6] rfl)
      · have f_14 : ¬ (0 : Int) = (0 : Int) := fun z => c_12 ((c_eq (nI_toInt (n := 0) (by omega)) rfl).mpr z)
        exfalso; omega
  · have f_15 := c_7
    exact absurd rfl f_15

set_option maxHeartbeats 4000000 in
set_option maxRecDepth 100000 in
theorem lw_2_x1a {pg : Program} {l : Launch} {ev : Env} {s : State} {m : MethodId} {below : List Frame} {meth : Method} {c : Code} {Q : State → Prop} {G : GT} {bq L : Nat} {xs : Nat → Int32} (hLK : LK pg l s m meth c bq L xs G) (c0 s0 : Nat) (hroom : c0 + 1 ≤ 601024 ∧ s0 + 6 ≤ 7293034) (a : Nat → Nat) (v : SVT) (mo ki : Nat → Nat) (pr df : Nat → Int) (co : Int32) (bi : Nat) (g9 : Nat → Int32) (lr : Nat) (bf : Nat → Int) (tn : Nat → Nat) (ln nx ct : Nat) (hv : Nat → SVT) (v0 : SVT) (k0 : Nat) (v1 : SVT) (k1 : Nat) (oa : Nat) (of : Nat → Int64) (mh m1 m2 m3 m4 m5 : Nat) (ss hi sl : Nat → Int) (tx : Nat → Nat) (ne : Nat → Int) (th : Int32) (kn ke le : Nat) (sp wr si on tw dn : Int32) (i : Nat) (x0 x1 : Int32) (hi5 : i + 5 ≤ L) (ha1 : xs (i + 1) = x0) (ha2 : xs (i + 2) = x1) (hbad : x0.toInt < -2 ∨ 2 < x0.toInt) {H : Heap} {locs : List Loc} {ls : Array Slot} (hP : PP G (lwW G a v mo ki pr df co bi g9 lr bf tn ln nx ct hv v0 k0 v1 k1 oa of mh m1 m2 m3 m4 m5 ss hi sl tx ne th kn ke le sp wr si on tw dn) H) (hD : va_D (lo G) (lwW G a v mo ki pr df co bi g9 lr bf tn ln nx ct hv v0 k0 v1 k1 oa of mh m1 m2 m3 m4 m5 ss hi sl tx ne th kn ke le sp wr si on tw dn)) (hS : va_S (lo G) s.heap H locs) (hl : lv_has ls 7 [(0, .ref bq), (1, .ref (a 0)), (2, .ref mh), (3, .ref oa), (4, .int (nI (i)))])
    (hk : ∀ (H : Heap) (locs : List Loc) (ls : Array Slot), PP G (lwW G a v mo ki pr df co bi g9 lr bf tn ln nx ct hv v0 k0 v1 k1 oa of mh m1 m2 m3 m4 m5 ss hi sl tx ne (nI 1) kn ke le sp wr si on tw dn) H → va_D (lo G) (lwW G a v mo ki pr df co bi g9 lr bf tn ln nx ct hv v0 k0 v1 k1 oa of mh m1 m2 m3 m4 m5 ss hi sl tx ne (nI 1) kn ke le sp wr si on tw dn) → va_S (lo G) s.heap H locs → lv_has ls 7 [(0, .ref bq), (1, .ref (a 0)), (2, .ref mh), (3, .ref oa), (4, .int (nI (i)))] → W pg l ev room_1 s m #[Value.ref bq] below meth c H locs (c0 + 1) (s0 + 6) Q (F0 m 1768 ls [])) :
    W pg l ev room_1 s m #[Value.ref bq] below meth c H locs c0 s0 Q (F0 m 352 ls []) := by
  obtain ⟨hx, hb, hml, hown, hts, hX, hbl, hCX, hgB, hfl, hL9⟩ := hLK
  have hC := hCX.1
  have hLo : ∀ q, lo G q → lo G q := fun _ h => h
  have hA : ∀ q, s.heap.size ≤ q → lo G q := fun q h => by show gB G ≤ q; rw [hgB]; exact h
  have hbA : ¬ lo G bq := by show ¬ gB G ≤ bq; rw [hgB]; omega
  refine lv_aload_n hx hb dL_law_352 rfl (lv_at hl 1 rfl) ?_
  refine lv_aload_n hx hb dL_law_353 rfl (lv_at hl 0 rfl) ?_
  refine lv_iload hx hb dL_law_354 (lv_at hl 4 rfl) ?_
  refine lv_iconst (v := nI (1)) hx hb dL_law_356 (by decide) ?_
  refine gAdd (z := nI (i + 1)) hx hb dL_law_357 (nI_add _ _) ?_
  refine gScr (i := i + 1) (v := x0) hx hb hX hbl hbA hS (by omega) hL9 ha1 dL_law_358 ?_
  refine lv_aload_n hx hb dL_law_359 rfl (lv_at hl 0 rfl) ?_
  refine lv_iload hx hb dL_law_360 (lv_at hl 4 rfl) ?_
  refine lv_iconst (v := nI (2)) hx hb dL_law_362 (by decide) ?_
  refine gAdd (z := nI (i + 2)) hx hb dL_law_363 (nI_add _ _) ?_
  refine gScr (i := i + 2) (v := x1) hx hb hX hbl hbA hS (by omega) hL9 ha2 dL_law_364 ?_
  refine lv_aload_n hx hb dL_law_365 rfl (lv_at hl 3 rfl) ?_
  refine kPreI (vx_runSW (As := [.ref (a 0), .int (x0), .int (x1), .ref oa]) (rest := []) ⟨hx, hb, hml, hown, hts⟩ (c_L_scroll_1a a v mo ki pr df co bi g9 lr bf tn ln nx ct hv v0 k0 v1 k1 oa of x0 x1 (hbad) hfl (PP_l hP) ((pre_D hD).weaken (fun _ _ _ h => hLo _ h))) (vx_cwSW 4 hts gL_law_L_scroll rfl rfl rfl (by decide +kernel) ⟨(Nat.le_of_ble_eq_true rfl), (Nat.le_of_ble_eq_true rfl)⟩) (preSX hCX hS hLo) rfl rfl hl.1 rfl (lv_room (Nat.le_of_ble_eq_true rfl)) dL_law_366 ⟨by show c0 + _ ≤ 601024; omega, by show s0 + _ ≤ 7293034; omega⟩) hP hD hS hA (fun _ => lw_fst) (fun r_3 u_1 H locs q_2 hP hD hS => ?_)
  have hP : PP G (lwW G a v mo ki pr df co bi g9 lr bf tn ln nx ct hv v0 k0 v1 k1 oa of mh m1 m2 m3 m4 m5 ss hi sl tx ne th kn ke le sp wr si on tw dn) H := hP
  have hD : va_D (lo G) (lwW G a v mo ki pr df co bi g9 lr bf tn ln nx ct hv v0 k0 v1 k1 oa of mh m1 m2 m3 m4 m5 ss hi sl tx ne th kn ke le sp wr si on tw dn) := hD
  refine topE (v' := nI (1)) (q_2) ?_
  refine lv_istore (lv' := [(5, .int (nI (1))), (0, .ref bq), (1, .ref (a 0)), (2, .ref mh), (3, .ref oa), (4, .int (nI (i)))]) hx hb dL_law_369 hl (by decide) rfl (fun ls hl => ?_)
  refine lv_aload_n hx hb dL_law_371 rfl (lv_at hl 3 rfl) ?_
  refine lv_aload_n hx hb dL_law_372 rfl (lv_at hl 1 rfl) ?_
  refine lv_iload hx hb dL_law_373 (lv_at hl 5 rfl) ?_
  refine lv_iconst (v := nI (1)) hx hb dL_law_375 (by decide) ?_
  refine gAdd (z := nI (i + 1)) hx hb dL_law_376 (nI_add _ _) ?_
  refine gScr (i := i + 1) (v := x0) hx hb hX hbl hbA hS (by omega) hL9 ha1 dL_law_377 ?_
  refine lv_aload_n hx hb dL_law_378 rfl (lv_at hl 1 rfl) ?_
  refine lv_iload hx hb dL_law_379 (lv_at hl 5 rfl) ?_
  refine lv_iconst (v := nI (2)) hx hb dL_law_381 (by decide) ?_
  refine gAdd (z := nI (i + 2)) hx hb dL_law_382 (nI_add _ _) ?_
  refine gScr (i := i + 2) (v := x1) hx hb hX hbl hbA hS (by omega) hL9 ha2 dL_law_383 ?_
  refine kSufI (va_runV (As := [.int (x0), .int (x1)]) (rest := []) ⟨hx, hb, hml, hown, hts⟩ (c_X9_scroll_1a mh m1 m2 m3 m4 m5 ss hi sl tx ne th kn ke le sp wr si on tw dn x0 x1 (hbad) (PP_r hP) ((pre_D (va_D_swap hD)).weaken (fun _ _ _ h => hLo _ h))) (cwV 2 hts gL_law_X9_scroll rfl rfl rfl (by decide +kernel) ⟨(Nat.le_of_ble_eq_true rfl), (Nat.le_of_ble_eq_true rfl)⟩) (preV hC hS hLo (PP_r hP) (ci := 8) (q0 := 0) rfl rfl) rfl rfl hl.1 rfl (lv_room (Nat.le_of_ble_eq_true rfl)) dL_law_384 ⟨by show c0 + _ ≤ 601024; omega, by show s0 + _ ≤ 7293034; omega⟩) hP hD hS hA (fun _ => rfl) (fun r_6 u_4 H locs q_5 hP hD hS => ?_)
  have hP : PP G (lwW G a v mo ki pr df co bi g9 lr bf tn ln nx ct hv v0 k0 v1 k1 oa of mh m1 m2 m3 m4 m5 ss hi sl tx ne (nI 1) kn ke le sp wr si on tw dn) H := hP
  have hD : va_D (lo G) (lwW G a v mo ki pr df co bi g9 lr bf tn ln nx ct hv v0 k0 v1 k1 oa of mh m1 m2 m3 m4 m5 ss hi sl tx ne (nI 1) kn ke le sp wr si on tw dn) := hD
  refine topE (v' := nI (0)) (q_5) ?_
  refine lv_istore (lv' := [(6, .int (nI (0))), (5, .int (nI (1))), (0, .ref bq), (1, .ref (a 0)), (2, .ref mh), (3, .ref oa), (4, .int (nI (i)))]) hx hb dL_law_387 hl (by decide) rfl (fun ls hl => ?_)
  refine lv_aload_n hx hb dL_law_389 rfl (lv_at hl 4 rfl) ?_
  refine kPi (va_runV (As := []) (rest := []) ⟨hx, hb, hml, hown, hts⟩ (c_X9_thrown mh m1 m2 m3 m4 m5 ss hi sl tx ne (nI (1)) kn ke le sp wr si on tw dn (PP_r hP)) (cwV 0 hts gL_law_X9_thrown rfl rfl rfl (by decide +kernel) ⟨(Nat.le_of_ble_eq_true rfl), (Nat.le_of_ble_eq_true rfl)⟩) (preV hC hS hLo (PP_r hP) (ci := 8) (q0 := 0) rfl rfl) rfl rfl hl.1 rfl (lv_room (Nat.le_of_ble_eq_true rfl)) dL_law_390 ⟨by show c0 + _ ≤ 601024; omega, by show s0 + _ ≤ 7293034; omega⟩) hS (fun locs hS => ?_)
  refine lv_iload hx hb dL_law_393 (lv_at hl 1 rfl) ?_
  refine lv_icmp_eq (tgt := 400) hx hb dL_law_395 (by decide) (fun c_7 => ?_) (fun c_7 => ?_)
  · have f_8 := c_7
    refine lv_iload hx hb dL_law_400 (lv_at hl 1 rfl) ?_
    refine lv_if_ne (tgt := 417) hx hb dL_law_402 (by decide) (fun c_9 => ?_) (fun c_9 => ?_)
    · have f_10 : ¬ (1 : Int) = (0 : Int) := fun z => c_9 ((c_eq (nI_toInt (n := 1) (by omega)) rfl).mpr z)
      refine lv_goto (tgt := 1768) hx hb dL_law_417 (by decide) ?_
      exact hk H locs ls hP hD hS (lv_sub hl [2, 3, 4, 5, 6] rfl)
    · have f_11 : (1 : Int) = (0 : Int) := (c_eq (nI_toInt (n := 1) (by omega)) rfl).mp c_9
      exfalso; omega
  · have f_12 := c_7
    exact absurd rfl f_12

set_option maxHeartbeats 4000000 in
set_option maxRecDepth 100000 in
theorem lw_2_x1b {pg : Program} {l : Launch} {ev : Env} {s : State} {m : MethodId} {below : List Frame} {meth : Method} {c : Code} {Q : State → Prop} {G : GT} {bq L : Nat} {xs : Nat → Int32} (hLK : LK pg l s m meth c bq L xs G) (c0 s0 : Nat) (hroom : c0 + 1 ≤ 601024 ∧ s0 + 6 ≤ 7293034) (a : Nat → Nat) (v : SVT) (mo ki : Nat → Nat) (pr df : Nat → Int) (co : Int32) (bi : Nat) (g9 : Nat → Int32) (lr : Nat) (bf : Nat → Int) (tn : Nat → Nat) (ln nx ct : Nat) (hv : Nat → SVT) (v0 : SVT) (k0 : Nat) (v1 : SVT) (k1 : Nat) (oa : Nat) (of : Nat → Int64) (mh m1 m2 m3 m4 m5 : Nat) (ss hi sl : Nat → Int) (tx : Nat → Nat) (ne : Nat → Int) (th : Int32) (kn ke le : Nat) (sp wr si on tw dn : Int32) (i : Nat) (x0 x1 : Int32) (hi5 : i + 5 ≤ L) (ha1 : xs (i + 1) = x0) (ha2 : xs (i + 2) = x1) (h0 : -2 ≤ x0.toInt ∧ x0.toInt ≤ 2) (hbad : x1.toInt < -2 ∨ 2 < x1.toInt) {H : Heap} {locs : List Loc} {ls : Array Slot} (hP : PP G (lwW G a v mo ki pr df co bi g9 lr bf tn ln nx ct hv v0 k0 v1 k1 oa of mh m1 m2 m3 m4 m5 ss hi sl tx ne th kn ke le sp wr si on tw dn) H) (hD : va_D (lo G) (lwW G a v mo ki pr df co bi g9 lr bf tn ln nx ct hv v0 k0 v1 k1 oa of mh m1 m2 m3 m4 m5 ss hi sl tx ne th kn ke le sp wr si on tw dn)) (hS : va_S (lo G) s.heap H locs) (hl : lv_has ls 7 [(0, .ref bq), (1, .ref (a 0)), (2, .ref mh), (3, .ref oa), (4, .int (nI (i)))])
    (hk : ∀ (H : Heap) (locs : List Loc) (ls : Array Slot), PP G (lwW G a v mo ki pr df co bi g9 lr bf tn ln nx ct hv v0 k0 v1 k1 oa of mh m1 m2 m3 m4 m5 ss hi sl tx ne (nI 1) kn ke le sp wr si on tw dn) H → va_D (lo G) (lwW G a v mo ki pr df co bi g9 lr bf tn ln nx ct hv v0 k0 v1 k1 oa of mh m1 m2 m3 m4 m5 ss hi sl tx ne (nI 1) kn ke le sp wr si on tw dn) → va_S (lo G) s.heap H locs → lv_has ls 7 [(0, .ref bq), (1, .ref (a 0)), (2, .ref mh), (3, .ref oa), (4, .int (nI (i)))] → W pg l ev room_1 s m #[Value.ref bq] below meth c H locs (c0 + 1) (s0 + 6) Q (F0 m 1768 ls [])) :
    W pg l ev room_1 s m #[Value.ref bq] below meth c H locs c0 s0 Q (F0 m 352 ls []) := by
  obtain ⟨hx, hb, hml, hown, hts, hX, hbl, hCX, hgB, hfl, hL9⟩ := hLK
  have hC := hCX.1
  have hLo : ∀ q, lo G q → lo G q := fun _ h => h
  have hA : ∀ q, s.heap.size ≤ q → lo G q := fun q h => by show gB G ≤ q; rw [hgB]; exact h
  have hbA : ¬ lo G bq := by show ¬ gB G ≤ bq; rw [hgB]; omega
  refine lv_aload_n hx hb dL_law_352 rfl (lv_at hl 1 rfl) ?_
  refine lv_aload_n hx hb dL_law_353 rfl (lv_at hl 0 rfl) ?_
  refine lv_iload hx hb dL_law_354 (lv_at hl 4 rfl) ?_
  refine lv_iconst (v := nI (1)) hx hb dL_law_356 (by decide) ?_
  refine gAdd (z := nI (i + 1)) hx hb dL_law_357 (nI_add _ _) ?_
  refine gScr (i := i + 1) (v := x0) hx hb hX hbl hbA hS (by omega) hL9 ha1 dL_law_358 ?_
  refine lv_aload_n hx hb dL_law_359 rfl (lv_at hl 0 rfl) ?_
  refine lv_iload hx hb dL_law_360 (lv_at hl 4 rfl) ?_
  refine lv_iconst (v := nI (2)) hx hb dL_law_362 (by decide) ?_
  refine gAdd (z := nI (i + 2)) hx hb dL_law_363 (nI_add _ _) ?_
  refine gScr (i := i + 2) (v := x1) hx hb hX hbl hbA hS (by omega) hL9 ha2 dL_law_364 ?_
  refine lv_aload_n hx hb dL_law_365 rfl (lv_at hl 3 rfl) ?_
  refine kPreI (vx_runSW (As := [.ref (a 0), .int (x0), .int (x1), .ref oa]) (rest := []) ⟨hx, hb, hml, hown, hts⟩ (c_L_scroll_1b a v mo ki pr df co bi g9 lr bf tn ln nx ct hv v0 k0 v1 k1 oa of x0 x1 (h0) (hbad) hfl (PP_l hP) ((pre_D hD).weaken (fun _ _ _ h => hLo _ h))) (vx_cwSW 4 hts gL_law_L_scroll rfl rfl rfl (by decide +kernel) ⟨(Nat.le_of_ble_eq_true rfl), (Nat.le_of_ble_eq_true rfl)⟩) (preSX hCX hS hLo) rfl rfl hl.1 rfl (lv_room (Nat.le_of_ble_eq_true rfl)) dL_law_366 ⟨by show c0 + _ ≤ 601024; omega, by show s0 + _ ≤ 7293034; omega⟩) hP hD hS hA (fun _ => lw_fst) (fun r_3 u_1 H locs q_2 hP hD hS => ?_)
  have hP : PP G (lwW G a v mo ki pr df co bi g9 lr bf tn ln nx ct hv v0 k0 v1 k1 oa of mh m1 m2 m3 m4 m5 ss hi sl tx ne th kn ke le sp wr si on tw dn) H := hP
  have hD : va_D (lo G) (lwW G a v mo ki pr df co bi g9 lr bf tn ln nx ct hv v0 k0 v1 k1 oa of mh m1 m2 m3 m4 m5 ss hi sl tx ne th kn ke le sp wr si on tw dn) := hD
  refine topE (v' := nI (1)) (q_2) ?_
  refine lv_istore (lv' := [(5, .int (nI (1))), (0, .ref bq), (1, .ref (a 0)), (2, .ref mh), (3, .ref oa), (4, .int (nI (i)))]) hx hb dL_law_369 hl (by decide) rfl (fun ls hl => ?_)
  refine lv_aload_n hx hb dL_law_371 rfl (lv_at hl 3 rfl) ?_
  refine lv_aload_n hx hb dL_law_372 rfl (lv_at hl 1 rfl) ?_
  refine lv_iload hx hb dL_law_373 (lv_at hl 5 rfl) ?_
  refine lv_iconst (v := nI (1)) hx hb dL_law_375 (by decide) ?_
  refine gAdd (z := nI (i + 1)) hx hb dL_law_376 (nI_add _ _) ?_
  refine gScr (i := i + 1) (v := x0) hx hb hX hbl hbA hS (by omega) hL9 ha1 dL_law_377 ?_
  refine lv_aload_n hx hb dL_law_378 rfl (lv_at hl 1 rfl) ?_
  refine lv_iload hx hb dL_law_379 (lv_at hl 5 rfl) ?_
  refine lv_iconst (v := nI (2)) hx hb dL_law_381 (by decide) ?_
  refine gAdd (z := nI (i + 2)) hx hb dL_law_382 (nI_add _ _) ?_
  refine gScr (i := i + 2) (v := x1) hx hb hX hbl hbA hS (by omega) hL9 ha2 dL_law_383 ?_
  refine kSufI (va_runV (As := [.int (x0), .int (x1)]) (rest := []) ⟨hx, hb, hml, hown, hts⟩ (c_X9_scroll_1b mh m1 m2 m3 m4 m5 ss hi sl tx ne th kn ke le sp wr si on tw dn x0 x1 (h0) (hbad) (PP_r hP) ((pre_D (va_D_swap hD)).weaken (fun _ _ _ h => hLo _ h))) (cwV 2 hts gL_law_X9_scroll rfl rfl rfl (by decide +kernel) ⟨(Nat.le_of_ble_eq_true rfl), (Nat.le_of_ble_eq_true rfl)⟩) (preV hC hS hLo (PP_r hP) (ci := 8) (q0 := 0) rfl rfl) rfl rfl hl.1 rfl (lv_room (Nat.le_of_ble_eq_true rfl)) dL_law_384 ⟨by show c0 + _ ≤ 601024; omega, by show s0 + _ ≤ 7293034; omega⟩) hP hD hS hA (fun _ => rfl) (fun r_6 u_4 H locs q_5 hP hD hS => ?_)
  have hP : PP G (lwW G a v mo ki pr df co bi g9 lr bf tn ln nx ct hv v0 k0 v1 k1 oa of mh m1 m2 m3 m4 m5 ss hi sl tx ne (nI 1) kn ke le sp wr si on tw dn) H := hP
  have hD : va_D (lo G) (lwW G a v mo ki pr df co bi g9 lr bf tn ln nx ct hv v0 k0 v1 k1 oa of mh m1 m2 m3 m4 m5 ss hi sl tx ne (nI 1) kn ke le sp wr si on tw dn) := hD
  refine topE (v' := nI (0)) (q_5) ?_
  refine lv_istore (lv' := [(6, .int (nI (0))), (5, .int (nI (1))), (0, .ref bq), (1, .ref (a 0)), (2, .ref mh), (3, .ref oa), (4, .int (nI (i)))]) hx hb dL_law_387 hl (by decide) rfl (fun ls hl => ?_)
  refine lv_aload_n hx hb dL_law_389 rfl (lv_at hl 4 rfl) ?_
  refine kPi (va_runV (As := []) (rest := []) ⟨hx, hb, hml, hown, hts⟩ (c_X9_thrown mh m1 m2 m3 m4 m5 ss hi sl tx ne (nI (1)) kn ke le sp wr si on tw dn (PP_r hP)) (cwV 0 hts gL_law_X9_thrown rfl rfl rfl (by decide +kernel) ⟨(Nat.le_of_ble_eq_true rfl), (Nat.le_of_ble_eq_true rfl)⟩) (preV hC hS hLo (PP_r hP) (ci := 8) (q0 := 0) rfl rfl) rfl rfl hl.1 rfl (lv_room (Nat.le_of_ble_eq_true rfl)) dL_law_390 ⟨by show c0 + _ ≤ 601024; omega, by show s0 + _ ≤ 7293034; omega⟩) hS (fun locs hS => ?_)
  refine lv_iload hx hb dL_law_393 (lv_at hl 1 rfl) ?_
  refine lv_icmp_eq (tgt := 400) hx hb dL_law_395 (by decide) (fun c_7 => ?_) (fun c_7 => ?_)
  · have f_8 := c_7
    refine lv_iload hx hb dL_law_400 (lv_at hl 1 rfl) ?_
    refine lv_if_ne (tgt := 417) hx hb dL_law_402 (by decide) (fun c_9 => ?_) (fun c_9 => ?_)
    · have f_10 : ¬ (1 : Int) = (0 : Int) := fun z => c_9 ((c_eq (nI_toInt (n := 1) (by omega)) rfl).mpr z)
      refine lv_goto (tgt := 1768) hx hb dL_law_417 (by decide) ?_
      exact hk H locs ls hP hD hS (lv_sub hl [2, 3, 4, 5, 6] rfl)
    · have f_11 : (1 : Int) = (0 : Int) := (c_eq (nI_toInt (n := 1) (by omega)) rfl).mp c_9
      exfalso; omega
  · have f_12 := c_7
    exact absurd rfl f_12

set_option maxHeartbeats 4000000 in
set_option maxRecDepth 100000 in
theorem lw_3_n0 {pg : Program} {l : Launch} {ev : Env} {s : State} {m : MethodId} {below : List Frame} {meth : Method} {c : Code} {Q : State → Prop} {G : GT} {bq L : Nat} {xs : Nat → Int32} (hLK : LK pg l s m meth c bq L xs G) (c0 s0 : Nat) (hroom : c0 + 1 ≤ 601024 ∧ s0 + 6 ≤ 7293034) (a : Nat → Nat) (v : SVT) (mo ki : Nat → Nat) (pr df : Nat → Int) (co : Int32) (bi : Nat) (g9 : Nat → Int32) (lr : Nat) (bf : Nat → Int) (tn : Nat → Nat) (ln nx ct : Nat) (hv : Nat → SVT) (v0 : SVT) (k0 : Nat) (v1 : SVT) (k1 : Nat) (oa : Nat) (of : Nat → Int64) (mh m1 m2 m3 m4 m5 : Nat) (ss hi sl : Nat → Int) (tx : Nat → Nat) (ne : Nat → Int) (th : Int32) (kn ke le : Nat) (sp wr si on tw dn : Int32) (i : Nat) (hi5 : i + 5 ≤ L) (hnx : nx < 6) (hct : ct ≤ 6) (hms : v.2.2.2.2.2.2.2.1 < 999) (hd : R15 v.1) (ht : R15 v.2.1) (hg : R15 v.2.2.1) (hdf : D15 df) (hmo : M25 mo) (hkd : 1 ≤ v.2.2.2.2.2.2.1 ∧ v.2.2.2.2.2.2.1 ≤ 20) (hpi : v.2.2.2.2.2.2.2.1 ≤ 999) (hkey : ¬ v.2.2.2.2.2.2.2.1 % v.2.2.2.2.2.2.1 = 0) (hbu : v.2.2.2.2.2.1 ≤ 300) (hkn : kn ≤ 6) (hMR : MR ss) (hkey' : ¬ (ss 194).toNat % (ss 193).toNat = 0) (hms' : ss 194 < 999) (hz : (xs (i + 1)).toInt = 0) (heq : nI (ABM (dS ss) (tS ss) (COM (dS ss) (tS ss) (ss 192).toNat) 4) = nI (ABM v.1 v.2.1 (COM v.1 v.2.1 v.2.2.2.2.2.1) 4)) {H : Heap} {locs : List Loc} {ls : Array Slot} (hP : PP G (lwW G a v mo ki pr df co bi g9 lr bf tn ln nx ct hv v0 k0 v1 k1 oa of mh m1 m2 m3 m4 m5 ss hi sl tx ne th kn ke le sp wr si on tw dn) H) (hD : va_D (lo G) (lwW G a v mo ki pr df co bi g9 lr bf tn ln nx ct hv v0 k0 v1 k1 oa of mh m1 m2 m3 m4 m5 ss hi sl tx ne th kn ke le sp wr si on tw dn)) (hS : va_S (lo G) s.heap H locs) (hl : lv_has ls 7 [(0, .ref bq), (1, .ref (a 0)), (2, .ref mh), (3, .ref oa), (4, .int (nI (i)))])
    (hk : ∀ (H : Heap) (locs : List Loc) (ls : Array Slot), PP G (lwW G a (v.1, nT v.1 v.2.1 v.2.2.2.2.2.1, nG v.1 v.2.1 v.2.2.1 v.2.2.2.2.2.1, knN v.1 v.2.1 v.2.2.2.2.2.1, BEST v.1 v.2.1, v.2.2.2.2.2.1, v.2.2.2.2.2.2.1, v.2.2.2.2.2.2.2.1 + 1, v.2.2.2.2.2.2.2.2.1, v.2.2.2.2.2.2.2.2.2 + ABM v.1 v.2.1 (COM v.1 v.2.1 v.2.2.2.2.2.1) 4) (BEST v.1 v.2.1) (knN v.1 v.2.1 v.2.2.2.2.2.1) (pN v.1 v.2.1) (dN v.1 v.2.1) (nI (COM v.1 v.2.1 v.2.2.2.2.2.1)) (ABM v.1 v.2.1 (COM v.1 v.2.1 v.2.2.2.2.2.1) 4) g9 lr v.2.2.1 tn ln ((nx + 1) % 6) (min (ct + 1) 6) (va_up hv nx v) v0 k0 v1 k1 oa (vp_updL of 0 ((nI (ABM v.1 v.2.1 (COM v.1 v.2.1 v.2.2.2.2.2.1) 4)).toInt64)) mh m1 m2 m3 m4 m5 (sdR ss (nT (dS ss) (tS ss) (ss 192).toNat) (nG (dS ss) (tS ss) (rS ss) (ss 192).toNat) (knN (dS ss) (tS ss) (ss 192).toNat) (BEST (dS ss) (tS ss)) (ABM (dS ss) (tS ss) (COM (dS ss) (tS ss) (ss 192).toNat) 4) 0) (recH hi ss kn) sl tx (nxP (nT (dS ss) (tS ss) (ss 192).toNat) (nG (dS ss) (tS ss) (rS ss) (ss 192).toNat) ne 4) (nI 0) (min (kn + 1) 6) ke le sp wr si on tw dn) H → va_D (lo G) (lwW G a (v.1, nT v.1 v.2.1 v.2.2.2.2.2.1, nG v.1 v.2.1 v.2.2.1 v.2.2.2.2.2.1, knN v.1 v.2.1 v.2.2.2.2.2.1, BEST v.1 v.2.1, v.2.2.2.2.2.1, v.2.2.2.2.2.2.1, v.2.2.2.2.2.2.2.1 + 1, v.2.2.2.2.2.2.2.2.1, v.2.2.2.2.2.2.2.2.2 + ABM v.1 v.2.1 (COM v.1 v.2.1 v.2.2.2.2.2.1) 4) (BEST v.1 v.2.1) (knN v.1 v.2.1 v.2.2.2.2.2.1) (pN v.1 v.2.1) (dN v.1 v.2.1) (nI (COM v.1 v.2.1 v.2.2.2.2.2.1)) (ABM v.1 v.2.1 (COM v.1 v.2.1 v.2.2.2.2.2.1) 4) g9 lr v.2.2.1 tn ln ((nx + 1) % 6) (min (ct + 1) 6) (va_up hv nx v) v0 k0 v1 k1 oa (vp_updL of 0 ((nI (ABM v.1 v.2.1 (COM v.1 v.2.1 v.2.2.2.2.2.1) 4)).toInt64)) mh m1 m2 m3 m4 m5 (sdR ss (nT (dS ss) (tS ss) (ss 192).toNat) (nG (dS ss) (tS ss) (rS ss) (ss 192).toNat) (knN (dS ss) (tS ss) (ss 192).toNat) (BEST (dS ss) (tS ss)) (ABM (dS ss) (tS ss) (COM (dS ss) (tS ss) (ss 192).toNat) 4) 0) (recH hi ss kn) sl tx (nxP (nT (dS ss) (tS ss) (ss 192).toNat) (nG (dS ss) (tS ss) (rS ss) (ss 192).toNat) ne 4) (nI 0) (min (kn + 1) 6) ke le sp wr si on tw dn) → va_S (lo G) s.heap H locs → lv_has ls 7 [(0, .ref bq), (1, .ref (a 0)), (2, .ref mh), (3, .ref oa), (4, .int (nI (i)))] → W pg l ev room_1 s m #[Value.ref bq] below meth c H locs (c0 + 0) (s0 + 0) Q (F0 m 1768 ls [])) :
    W pg l ev room_1 s m #[Value.ref bq] below meth c H locs c0 s0 Q (F0 m 420 ls []) := by
  obtain ⟨hx, hb, hml, hown, hts, hX, hbl, hCX, hgB, hfl, hL9⟩ := hLK
  have hC := hCX.1
  have hLo : ∀ q, lo G q → lo G q := fun _ h => h
  have hA : ∀ q, s.heap.size ≤ q → lo G q := fun q h => by show gB G ≤ q; rw [hgB]; exact h
  have hbA : ¬ lo G bq := by show ¬ gB G ≤ bq; rw [hgB]; omega
  refine lv_aload_n hx hb dL_law_420 rfl (lv_at hl 1 rfl) ?_
  refine lv_aload_n hx hb dL_law_421 rfl (lv_at hl 0 rfl) ?_
  refine lv_iload hx hb dL_law_422 (lv_at hl 4 rfl) ?_
  refine lv_iconst (v := nI (1)) hx hb dL_law_424 (by decide) ?_
  refine gAdd (z := nI (i + 1)) hx hb dL_law_425 (nI_add _ _) ?_
  refine gScr (i := i + 1) (v := xs (i + 1)) hx hb hX hbl hbA hS (by omega) hL9 rfl dL_law_426 ?_
  refine lv_if_eq (tgt := 434) hx hb dL_law_427 (by decide) (fun c_1 => ?_) (fun c_1 => ?_)
  · have f_2 : (xs (i + 1)).toInt = 0 := by rw [c_1]; rfl
    refine lv_iconst (v := nI (0)) hx hb dL_law_434 (by decide) ?_
    refine lv_aload_n hx hb dL_law_435 rfl (lv_at hl 3 rfl) ?_
    refine kPreI (vx_runSW (As := [.ref (a 0), .int (nI (0)), .ref oa]) (rest := []) ⟨hx, hb, hml, hown, hts⟩ (c_L_send_n0 a v mo ki pr df co bi g9 lr bf tn ln nx ct hv v0 k0 v1 k1 oa of (hnx) (hct) (hms) (hd) (ht) (hg) (hdf) (hmo) (hkd) (hpi) (hkey) (hbu) (PP_l hP) ((pre_D hD).weaken (fun _ _ _ h => hLo _ h))) (vx_cwSW 3 hts gL_law_L_send rfl rfl rfl (by decide +kernel) ⟨(Nat.le_of_ble_eq_true rfl), (Nat.le_of_ble_eq_true rfl)⟩) (preS hC hS hLo) rfl rfl hl.1 rfl (lv_room (Nat.le_of_ble_eq_true rfl)) dL_law_436 ⟨by show c0 + _ ≤ 601024; omega, by show s0 + _ ≤ 7293034; omega⟩) hP hD hS hA (fun _ => lw_fst) (fun r_5 u_3 H locs q_4 hP hD hS => ?_)
    have hP : PP G (lwW G a (v.1, nT v.1 v.2.1 v.2.2.2.2.2.1, nG v.1 v.2.1 v.2.2.1 v.2.2.2.2.2.1, knN v.1 v.2.1 v.2.2.2.2.2.1, BEST v.1 v.2.1, v.2.2.2.2.2.1, v.2.2.2.2.2.2.1, v.2.2.2.2.2.2.2.1 + 1, v.2.2.2.2.2.2.2.2.1, v.2.2.2.2.2.2.2.2.2 + ABM v.1 v.2.1 (COM v.1 v.2.1 v.2.2.2.2.2.1) 4) (BEST v.1 v.2.1) (knN v.1 v.2.1 v.2.2.2.2.2.1) (pN v.1 v.2.1) (dN v.1 v.2.1) (nI (COM v.1 v.2.1 v.2.2.2.2.2.1)) (ABM v.1 v.2.1 (COM v.1 v.2.1 v.2.2.2.2.2.1) 4) g9 lr v.2.2.1 tn ln ((nx + 1) % 6) (min (ct + 1) 6) (va_up hv nx v) v0 k0 v1 k1 oa (vp_updL of 0 ((nI (ABM v.1 v.2.1 (COM v.1 v.2.1 v.2.2.2.2.2.1) 4)).toInt64)) mh m1 m2 m3 m4 m5 ss hi sl tx ne th kn ke le sp wr si on tw dn) H := hP
    have hD : va_D (lo G) (lwW G a (v.1, nT v.1 v.2.1 v.2.2.2.2.2.1, nG v.1 v.2.1 v.2.2.1 v.2.2.2.2.2.1, knN v.1 v.2.1 v.2.2.2.2.2.1, BEST v.1 v.2.1, v.2.2.2.2.2.1, v.2.2.2.2.2.2.1, v.2.2.2.2.2.2.2.1 + 1, v.2.2.2.2.2.2.2.2.1, v.2.2.2.2.2.2.2.2.2 + ABM v.1 v.2.1 (COM v.1 v.2.1 v.2.2.2.2.2.1) 4) (BEST v.1 v.2.1) (knN v.1 v.2.1 v.2.2.2.2.2.1) (pN v.1 v.2.1) (dN v.1 v.2.1) (nI (COM v.1 v.2.1 v.2.2.2.2.2.1)) (ABM v.1 v.2.1 (COM v.1 v.2.1 v.2.2.2.2.2.1) 4) g9 lr v.2.2.1 tn ln ((nx + 1) % 6) (min (ct + 1) 6) (va_up hv nx v) v0 k0 v1 k1 oa (vp_updL of 0 ((nI (ABM v.1 v.2.1 (COM v.1 v.2.1 v.2.2.2.2.2.1) 4)).toInt64)) mh m1 m2 m3 m4 m5 ss hi sl tx ne th kn ke le sp wr si on tw dn) := hD
    refine topE (v' := nI (0)) (q_4) ?_
    refine lv_istore (lv' := [(5, .int (nI (0))), (0, .ref bq), (1, .ref (a 0)), (2, .ref mh), (3, .ref oa), (4, .int (nI (i)))]) hx hb dL_law_439 hl (by decide) rfl (fun ls hl => ?_)
    refine lv_aload_n hx hb dL_law_441 rfl (lv_at hl 3 rfl) ?_
    refine lv_aload_n hx hb dL_law_442 rfl (lv_at hl 1 rfl) ?_
    refine lv_iload hx hb dL_law_443 (lv_at hl 5 rfl) ?_
    refine lv_iconst (v := nI (1)) hx hb dL_law_445 (by decide) ?_
    refine gAdd (z := nI (i + 1)) hx hb dL_law_446 (nI_add _ _) ?_
    refine gScr (i := i + 1) (v := xs (i + 1)) hx hb hX hbl hbA hS (by omega) hL9 rfl dL_law_447 ?_
    refine lv_if_eq (tgt := 455) hx hb dL_law_448 (by decide) (fun c_6 => ?_) (fun c_6 => ?_)
    · have f_7 : (xs (i + 1)).toInt = 0 := by rw [c_6]; rfl
      refine lv_iconst (v := nI (0)) hx hb dL_law_455 (by decide) ?_
      refine kSufI (va_runV (As := [.int (nI (0))]) (rest := []) ⟨hx, hb, hml, hown, hts⟩ (c_X9_send_n0 mh m1 m2 m3 m4 m5 ss hi sl tx ne th kn ke le sp wr si on tw dn (hkn) (hMR) (hkey') (hms') (PP_r hP) ((pre_D (va_D_swap hD)).weaken (fun _ _ _ h => hLo _ h))) (cwV 1 hts gL_law_X9_send rfl rfl rfl (by decide +kernel) ⟨(Nat.le_of_ble_eq_true rfl), (Nat.le_of_ble_eq_true rfl)⟩) (preV hC hS hLo (PP_r hP) (ci := 8) (q0 := 0) rfl rfl) rfl rfl hl.1 rfl (lv_room (Nat.le_of_ble_eq_true rfl)) dL_law_456 ⟨by show c0 + _ ≤ 601024; omega, by show s0 + _ ≤ 7293034; omega⟩) hP hD hS hA (fun _ => rfl) (fun r_10 u_8 H locs q_9 hP hD hS => ?_)
      have hP : PP G (lwW G a (v.1, nT v.1 v.2.1 v.2.2.2.2.2.1, nG v.1 v.2.1 v.2.2.1 v.2.2.2.2.2.1, knN v.1 v.2.1 v.2.2.2.2.2.1, BEST v.1 v.2.1, v.2.2.2.2.2.1, v.2.2.2.2.2.2.1, v.2.2.2.2.2.2.2.1 + 1, v.2.2.2.2.2.2.2.2.1, v.2.2.2.2.2.2.2.2.2 + ABM v.1 v.2.1 (COM v.1 v.2.1 v.2.2.2.2.2.1) 4) (BEST v.1 v.2.1) (knN v.1 v.2.1 v.2.2.2.2.2.1) (pN v.1 v.2.1) (dN v.1 v.2.1) (nI (COM v.1 v.2.1 v.2.2.2.2.2.1)) (ABM v.1 v.2.1 (COM v.1 v.2.1 v.2.2.2.2.2.1) 4) g9 lr v.2.2.1 tn ln ((nx + 1) % 6) (min (ct + 1) 6) (va_up hv nx v) v0 k0 v1 k1 oa (vp_updL of 0 ((nI (ABM v.1 v.2.1 (COM v.1 v.2.1 v.2.2.2.2.2.1) 4)).toInt64)) mh m1 m2 m3 m4 m5 (sdR ss (nT (dS ss) (tS ss) (ss 192).toNat) (nG (dS ss) (tS ss) (rS ss) (ss 192).toNat) (knN (dS ss) (tS ss) (ss 192).toNat) (BEST (dS ss) (tS ss)) (ABM (dS ss) (tS ss) (COM (dS ss) (tS ss) (ss 192).toNat) 4) 0) (recH hi ss kn) sl tx (nxP (nT (dS ss) (tS ss) (ss 192).toNat) (nG (dS ss) (tS ss) (rS ss) (ss 192).toNat) ne 4) (nI 0) (min (kn + 1) 6) ke le sp wr si on tw dn) H := hP
      have hD : va_D (lo G) (lwW G a (v.1, nT v.1 v.2.1 v.2.2.2.2.2.1, nG v.1 v.2.1 v.2.2.1 v.2.2.2.2.2.1, knN v.1 v.2.1 v.2.2.2.2.2.1, BEST v.1 v.2.1, v.2.2.2.2.2.1, v.2.2.2.2.2.2.1, v.2.2.2.2.2.2.2.1 + 1, v.2.2.2.2.2.2.2.2.1, v.2.2.2.2.2.2.2.2.2 + ABM v.1 v.2.1 (COM v.1 v.2.1 v.2.2.2.2.2.1) 4) (BEST v.1 v.2.1) (knN v.1 v.2.1 v.2.2.2.2.2.1) (pN v.1 v.2.1) (dN v.1 v.2.1) (nI (COM v.1 v.2.1 v.2.2.2.2.2.1)) (ABM v.1 v.2.1 (COM v.1 v.2.1 v.2.2.2.2.2.1) 4) g9 lr v.2.2.1 tn ln ((nx + 1) % 6) (min (ct + 1) 6) (va_up hv nx v) v0 k0 v1 k1 oa (vp_updL of 0 ((nI (ABM v.1 v.2.1 (COM v.1 v.2.1 v.2.2.2.2.2.1) 4)).toInt64)) mh m1 m2 m3 m4 m5 (sdR ss (nT (dS ss) (tS ss) (ss 192).toNat) (nG (dS ss) (tS ss) (rS ss) (ss 192).toNat) (knN (dS ss) (tS ss) (ss 192).toNat) (BEST (dS ss) (tS ss)) (ABM (dS ss) (tS ss) (COM (dS ss) (tS ss) (ss 192).toNat) 4) 0) (recH hi ss kn) sl tx (nxP (nT (dS ss) (tS ss) (ss 192).toNat) (nG (dS ss) (tS ss) (rS ss) (ss 192).toNat) ne 4) (nI 0) (min (kn + 1) 6) ke le sp wr si on tw dn) := hD
      refine topE (v' := nI (ABM v.1 v.2.1 (COM v.1 v.2.1 v.2.2.2.2.2.1) 4)) (q_9.trans (heq)) ?_
      refine lv_istore (lv' := [(6, .int (nI (ABM v.1 v.2.1 (COM v.1 v.2.1 v.2.2.2.2.2.1) 4))), (5, .int (nI (0))), (0, .ref bq), (1, .ref (a 0)), (2, .ref mh), (3, .ref oa), (4, .int (nI (i)))]) hx hb dL_law_459 hl (by decide) rfl (fun ls hl => ?_)
      refine lv_aload_n hx hb dL_law_461 rfl (lv_at hl 4 rfl) ?_
      refine kPi (va_runV (As := []) (rest := []) ⟨hx, hb, hml, hown, hts⟩ (c_X9_thrown mh m1 m2 m3 m4 m5 (sdR ss (nT (dS ss) (tS ss) (ss 192).toNat) (nG (dS ss) (tS ss) (rS ss) (ss 192).toNat) (knN (dS ss) (tS ss) (ss 192).toNat) (BEST (dS ss) (tS ss)) (ABM (dS ss) (tS ss) (COM (dS ss) (tS ss) (ss 192).toNat) 4) 0) (recH hi ss kn) sl tx (nxP (nT (dS ss) (tS ss) (ss 192).toNat) (nG (dS ss) (tS ss) (rS ss) (ss 192).toNat) ne 4) (nI (0)) (min (kn + 1) 6) ke le sp wr si on tw dn (PP_r hP)) (cwV 0 hts gL_law_X9_thrown rfl rfl rfl (by decide +kernel) ⟨(Nat.le_of_ble_eq_true rfl), (Nat.le_of_ble_eq_true rfl)⟩) (preV hC hS hLo (PP_r hP) (ci := 8) (q0 := 0) rfl rfl) rfl rfl hl.1 rfl (lv_room (Nat.le_of_ble_eq_true rfl)) dL_law_462 ⟨by show c0 + _ ≤ 601024; omega, by show s0 + _ ≤ 7293034; omega⟩) hS (fun locs hS => ?_)
      refine lv_iload hx hb dL_law_465 (lv_at hl 1 rfl) ?_
      refine lv_icmp_eq (tgt := 472) hx hb dL_law_467 (by decide) (fun c_11 => ?_) (fun c_11 => ?_)
      · have f_12 := c_11
        refine lv_iload hx hb dL_law_472 (lv_at hl 1 rfl) ?_
        refine lv_if_ne (tgt := 489) hx hb dL_law_474 (by decide) (fun c_13 => ?_) (fun c_13 => ?_)
        · have f_14 : ¬ (0 : Int) = (0 : Int) := fun z => c_13 ((c_eq (nI_toInt (n := 0) (by omega)) rfl).mpr z)
          exfalso; omega
        · have f_15 : (0 : Int) = (0 : Int) := (c_eq (nI_toInt (n := 0) (by omega)) rfl).mp c_13
          refine lv_aload_n hx hb dL_law_477 rfl (lv_at hl 5 rfl) ?_
          refine lv_iconst (v := nI (0)) hx hb dL_law_478 (by decide) ?_
          refine gLald (j := 0) hx hb hC.K (PP_r (PP_l hP)) 0 4 rfl rfl rfl (by decide) (by decide) dL_law_479 ?_
          refine W.eq (g2 := F0 m 480 ls [.long ((nI (ABM v.1 v.2.1 (COM v.1 v.2.1 v.2.2.2.2.2.1) 4)).toInt64)]) rfl ?_
          refine lv_iload hx hb dL_law_480 (lv_at hl 0 rfl) ?_
          refine lv_i2l (v := (nI (ABM v.1 v.2.1 (COM v.1 v.2.1 v.2.2.2.2.2.1) 4)).toInt64) hx hb dL_law_482 (rfl) ?_
          refine W.lcmp hx hb dL_law_483 ?_
          refine topE (v' := nI (0)) (lg_self _) ?_
          refine lv_if_eq (tgt := 489) hx hb dL_law_484 (by decide) (fun c_16 => ?_) (fun c_16 => ?_)
          · have f_17 : (0 : Int) = (0 : Int) := (c_eq (nI_toInt (n := 0) (by omega)) rfl).mp c_16
            refine lv_goto (tgt := 1768) hx hb dL_law_489 (by decide) ?_
            exact hk H locs ls hP hD hS (lv_sub hl [2, 3, 4, 5, 6] rfl)
          · have f_18 : ¬ (0 : Int) = (0 : Int) := fun z => c_16 ((c_eq (nI_toInt (n := 0) (by omega)) rfl).mpr z)
            exfalso; omega
      · have f_19 := c_11
        exact absurd rfl f_19
    · have f_20 : ¬ (xs (i + 1)).toInt = 0 := fun z => c_6 (Int32.toInt_inj.mp (z.trans (by decide)))
      exfalso; omega
  · have f_21 : ¬ (xs (i + 1)).toInt = 0 := fun z => c_1 (Int32.toInt_inj.mp (z.trans (by decide)))
    exfalso; omega

set_option maxHeartbeats 4000000 in
set_option maxRecDepth 100000 in
theorem lw_3_k0 {pg : Program} {l : Launch} {ev : Env} {s : State} {m : MethodId} {below : List Frame} {meth : Method} {c : Code} {Q : State → Prop} {G : GT} {bq L : Nat} {xs : Nat → Int32} (hLK : LK pg l s m meth c bq L xs G) (c0 s0 : Nat) (hroom : c0 + 1 ≤ 601024 ∧ s0 + 6 ≤ 7293034) (a : Nat → Nat) (v : SVT) (mo ki : Nat → Nat) (pr df : Nat → Int) (co : Int32) (bi : Nat) (g9 : Nat → Int32) (lr : Nat) (bf : Nat → Int) (tn : Nat → Nat) (ln nx ct : Nat) (hv : Nat → SVT) (v0 : SVT) (k0 : Nat) (v1 : SVT) (k1 : Nat) (oa : Nat) (of : Nat → Int64) (mh m1 m2 m3 m4 m5 : Nat) (ss hi sl : Nat → Int) (tx : Nat → Nat) (ne : Nat → Int) (th : Int32) (kn ke le : Nat) (sp wr si on tw dn : Int32) (i : Nat) (hi5 : i + 5 ≤ L) (hnx : nx < 6) (hct : ct ≤ 6) (hms : v.2.2.2.2.2.2.2.1 < 999) (hkd : 1 ≤ v.2.2.2.2.2.2.1 ∧ v.2.2.2.2.2.2.1 ≤ 20) (hpi : v.2.2.2.2.2.2.2.1 ≤ 999) (hkey : v.2.2.2.2.2.2.2.1 % v.2.2.2.2.2.2.1 = 0) (hkn : kn ≤ 6) (hMR : MR ss) (hkey' : (ss 194).toNat % (ss 193).toNat = 0) (hms' : ss 194 < 999) (hz : (xs (i + 1)).toInt = 0) (heq : nI (264) = nI (264)) {H : Heap} {locs : List Loc} {ls : Array Slot} (hP : PP G (lwW G a v mo ki pr df co bi g9 lr bf tn ln nx ct hv v0 k0 v1 k1 oa of mh m1 m2 m3 m4 m5 ss hi sl tx ne th kn ke le sp wr si on tw dn) H) (hD : va_D (lo G) (lwW G a v mo ki pr df co bi g9 lr bf tn ln nx ct hv v0 k0 v1 k1 oa of mh m1 m2 m3 m4 m5 ss hi sl tx ne th kn ke le sp wr si on tw dn)) (hS : va_S (lo G) s.heap H locs) (hl : lv_has ls 7 [(0, .ref bq), (1, .ref (a 0)), (2, .ref mh), (3, .ref oa), (4, .int (nI (i)))])
    (hk : ∀ (H : Heap) (locs : List Loc) (ls : Array Slot), PP G (lwW G a (v.1, v.1, v.1, fun _ => 0, mo, v.2.2.2.2.2.1, v.2.2.2.2.2.2.1, v.2.2.2.2.2.2.2.1 + 1, v.2.2.2.2.2.2.2.2.1, v.2.2.2.2.2.2.2.2.2 + 264) mo (fzK ki 4) pr df (iI (-1)) 264 g9 lr v.2.2.1 tn ln ((nx + 1) % 6) (min (ct + 1) 6) (va_up hv nx v) v0 k0 v1 k1 oa (vp_updL of 0 ((nI (264)).toInt64)) mh m1 m2 m3 m4 m5 (sdR ss (dS ss) (dS ss) (fun _ => 0) (BEST (dS ss) (tS ss)) (264) 0) (recH hi ss kn) sl tx (nxP (dS ss) (dS ss) ne 4) (nI 0) (min (kn + 1) 6) ke le sp wr si on tw dn) H → va_D (lo G) (lwW G a (v.1, v.1, v.1, fun _ => 0, mo, v.2.2.2.2.2.1, v.2.2.2.2.2.2.1, v.2.2.2.2.2.2.2.1 + 1, v.2.2.2.2.2.2.2.2.1, v.2.2.2.2.2.2.2.2.2 + 264) mo (fzK ki 4) pr df (iI (-1)) 264 g9 lr v.2.2.1 tn ln ((nx + 1) % 6) (min (ct + 1) 6) (va_up hv nx v) v0 k0 v1 k1 oa (vp_updL of 0 ((nI (264)).toInt64)) mh m1 m2 m3 m4 m5 (sdR ss (dS ss) (dS ss) (fun _ => 0) (BEST (dS ss) (tS ss)) (264) 0) (recH hi ss kn) sl tx (nxP (dS ss) (dS ss) ne 4) (nI 0) (min (kn + 1) 6) ke le sp wr si on tw dn) → va_S (lo G) s.heap H locs → lv_has ls 7 [(0, .ref bq), (1, .ref (a 0)), (2, .ref mh), (3, .ref oa), (4, .int (nI (i)))] → W pg l ev room_1 s m #[Value.ref bq] below meth c H locs (c0 + 0) (s0 + 0) Q (F0 m 1768 ls [])) :
    W pg l ev room_1 s m #[Value.ref bq] below meth c H locs c0 s0 Q (F0 m 420 ls []) := by
  obtain ⟨hx, hb, hml, hown, hts, hX, hbl, hCX, hgB, hfl, hL9⟩ := hLK
  have hC := hCX.1
  have hLo : ∀ q, lo G q → lo G q := fun _ h => h
  have hA : ∀ q, s.heap.size ≤ q → lo G q := fun q h => by show gB G ≤ q; rw [hgB]; exact h
  have hbA : ¬ lo G bq := by show ¬ gB G ≤ bq; rw [hgB]; omega
  refine lv_aload_n hx hb dL_law_420 rfl (lv_at hl 1 rfl) ?_
  refine lv_aload_n hx hb dL_law_421 rfl (lv_at hl 0 rfl) ?_
  refine lv_iload hx hb dL_law_422 (lv_at hl 4 rfl) ?_
  refine lv_iconst (v := nI (1)) hx hb dL_law_424 (by decide) ?_
  refine gAdd (z := nI (i + 1)) hx hb dL_law_425 (nI_add _ _) ?_
  refine gScr (i := i + 1) (v := xs (i + 1)) hx hb hX hbl hbA hS (by omega) hL9 rfl dL_law_426 ?_
  refine lv_if_eq (tgt := 434) hx hb dL_law_427 (by decide) (fun c_1 => ?_) (fun c_1 => ?_)
  · have f_2 : (xs (i + 1)).toInt = 0 := by rw [c_1]; rfl
    refine lv_iconst (v := nI (0)) hx hb dL_law_434 (by decide) ?_
    refine lv_aload_n hx hb dL_law_435 rfl (lv_at hl 3 rfl) ?_
    refine kPreI (vx_runSW (As := [.ref (a 0), .int (nI (0)), .ref oa]) (rest := []) ⟨hx, hb, hml, hown, hts⟩ (c_L_send_k0 a v mo ki pr df co bi g9 lr bf tn ln nx ct hv v0 k0 v1 k1 oa of (hnx) (hct) (hms) (hkd) (hpi) (hkey) (PP_l hP) ((pre_D hD).weaken (fun _ _ _ h => hLo _ h))) (vx_cwSW 3 hts gL_law_L_send rfl rfl rfl (by decide +kernel) ⟨(Nat.le_of_ble_eq_true rfl), (Nat.le_of_ble_eq_true rfl)⟩) (preS hC hS hLo) rfl rfl hl.1 rfl (lv_room (Nat.le_of_ble_eq_true rfl)) dL_law_436 ⟨by show c0 + _ ≤ 601024; omega, by show s0 + _ ≤ 7293034; omega⟩) hP hD hS hA (fun _ => lw_fst) (fun r_5 u_3 H locs q_4 hP hD hS => ?_)
    have hP : PP G (lwW G a (v.1, v.1, v.1, fun _ => 0, mo, v.2.2.2.2.2.1, v.2.2.2.2.2.2.1, v.2.2.2.2.2.2.2.1 + 1, v.2.2.2.2.2.2.2.2.1, v.2.2.2.2.2.2.2.2.2 + 264) mo (fzK ki 4) pr df (iI (-1)) 264 g9 lr v.2.2.1 tn ln ((nx + 1) % 6) (min (ct + 1) 6) (va_up hv nx v) v0 k0 v1 k1 oa (vp_updL of 0 ((nI (264)).toInt64)) mh m1 m2 m3 m4 m5 ss hi sl tx ne th kn ke le sp wr si on tw dn) H := hP
    have hD : va_D (lo G) (lwW G a (v.1, v.1, v.1, fun _ => 0, mo, v.2.2.2.2.2.1, v.2.2.2.2.2.2.1, v.2.2.2.2.2.2.2.1 + 1, v.2.2.2.2.2.2.2.2.1, v.2.2.2.2.2.2.2.2.2 + 264) mo (fzK ki 4) pr df (iI (-1)) 264 g9 lr v.2.2.1 tn ln ((nx + 1) % 6) (min (ct + 1) 6) (va_up hv nx v) v0 k0 v1 k1 oa (vp_updL of 0 ((nI (264)).toInt64)) mh m1 m2 m3 m4 m5 ss hi sl tx ne th kn ke le sp wr si on tw dn) := hD
    refine topE (v' := nI (0)) (q_4) ?_
    refine lv_istore (lv' := [(5, .int (nI (0))), (0, .ref bq), (1, .ref (a 0)), (2, .ref mh), (3, .ref oa), (4, .int (nI (i)))]) hx hb dL_law_439 hl (by decide) rfl (fun ls hl => ?_)
    refine lv_aload_n hx hb dL_law_441 rfl (lv_at hl 3 rfl) ?_
    refine lv_aload_n hx hb dL_law_442 rfl (lv_at hl 1 rfl) ?_
    refine lv_iload hx hb dL_law_443 (lv_at hl 5 rfl) ?_
    refine lv_iconst (v := nI (1)) hx hb dL_law_445 (by decide) ?_
    refine gAdd (z := nI (i + 1)) hx hb dL_law_446 (nI_add _ _) ?_
    refine gScr (i := i + 1) (v := xs (i + 1)) hx hb hX hbl hbA hS (by omega) hL9 rfl dL_law_447 ?_
    refine lv_if_eq (tgt := 455) hx hb dL_law_448 (by decide) (fun c_6 => ?_) (fun c_6 => ?_)
    · have f_7 : (xs (i + 1)).toInt = 0 := by rw [c_6]; rfl
      refine lv_iconst (v := nI (0)) hx hb dL_law_455 (by decide) ?_
      refine kSufI (va_runV (As := [.int (nI (0))]) (rest := []) ⟨hx, hb, hml, hown, hts⟩ (c_X9_send_k0 mh m1 m2 m3 m4 m5 ss hi sl tx ne th kn ke le sp wr si on tw dn (hkn) (hMR) (hkey') (hms') (PP_r hP) ((pre_D (va_D_swap hD)).weaken (fun _ _ _ h => hLo _ h))) (cwV 1 hts gL_law_X9_send rfl rfl rfl (by decide +kernel) ⟨(Nat.le_of_ble_eq_true rfl), (Nat.le_of_ble_eq_true rfl)⟩) (preV hC hS hLo (PP_r hP) (ci := 8) (q0 := 0) rfl rfl) rfl rfl hl.1 rfl (lv_room (Nat.le_of_ble_eq_true rfl)) dL_law_456 ⟨by show c0 + _ ≤ 601024; omega, by show s0 + _ ≤ 7293034; omega⟩) hP hD hS hA (fun _ => rfl) (fun r_10 u_8 H locs q_9 hP hD hS => ?_)
      have hP : PP G (lwW G a (v.1, v.1, v.1, fun _ => 0, mo, v.2.2.2.2.2.1, v.2.2.2.2.2.2.1, v.2.2.2.2.2.2.2.1 + 1, v.2.2.2.2.2.2.2.2.1, v.2.2.2.2.2.2.2.2.2 + 264) mo (fzK ki 4) pr df (iI (-1)) 264 g9 lr v.2.2.1 tn ln ((nx + 1) % 6) (min (ct + 1) 6) (va_up hv nx v) v0 k0 v1 k1 oa (vp_updL of 0 ((nI (264)).toInt64)) mh m1 m2 m3 m4 m5 (sdR ss (dS ss) (dS ss) (fun _ => 0) (BEST (dS ss) (tS ss)) (264) 0) (recH hi ss kn) sl tx (nxP (dS ss) (dS ss) ne 4) (nI 0) (min (kn + 1) 6) ke le sp wr si on tw dn) H := hP
      have hD : va_D (lo G) (lwW G a (v.1, v.1, v.1, fun _ => 0, mo, v.2.2.2.2.2.1, v.2.2.2.2.2.2.1, v.2.2.2.2.2.2.2.1 + 1, v.2.2.2.2.2.2.2.2.1, v.2.2.2.2.2.2.2.2.2 + 264) mo (fzK ki 4) pr df (iI (-1)) 264 g9 lr v.2.2.1 tn ln ((nx + 1) % 6) (min (ct + 1) 6) (va_up hv nx v) v0 k0 v1 k1 oa (vp_updL of 0 ((nI (264)).toInt64)) mh m1 m2 m3 m4 m5 (sdR ss (dS ss) (dS ss) (fun _ => 0) (BEST (dS ss) (tS ss)) (264) 0) (recH hi ss kn) sl tx (nxP (dS ss) (dS ss) ne 4) (nI 0) (min (kn + 1) 6) ke le sp wr si on tw dn) := hD
      refine topE (v' := nI (264)) (q_9.trans (heq)) ?_
      refine lv_istore (lv' := [(6, .int (nI (264))), (5, .int (nI (0))), (0, .ref bq), (1, .ref (a 0)), (2, .ref mh), (3, .ref oa), (4, .int (nI (i)))]) hx hb dL_law_459 hl (by decide) rfl (fun ls hl => ?_)
      refine lv_aload_n hx hb dL_law_461 rfl (lv_at hl 4 rfl) ?_
      refine kPi (va_runV (As := []) (rest := []) ⟨hx, hb, hml, hown, hts⟩ (c_X9_thrown mh m1 m2 m3 m4 m5 (sdR ss (dS ss) (dS ss) (fun _ => 0) (BEST (dS ss) (tS ss)) (264) 0) (recH hi ss kn) sl tx (nxP (dS ss) (dS ss) ne 4) (nI (0)) (min (kn + 1) 6) ke le sp wr si on tw dn (PP_r hP)) (cwV 0 hts gL_law_X9_thrown rfl rfl rfl (by decide +kernel) ⟨(Nat.le_of_ble_eq_true rfl), (Nat.le_of_ble_eq_true rfl)⟩) (preV hC hS hLo (PP_r hP) (ci := 8) (q0 := 0) rfl rfl) rfl rfl hl.1 rfl (lv_room (Nat.le_of_ble_eq_true rfl)) dL_law_462 ⟨by show c0 + _ ≤ 601024; omega, by show s0 + _ ≤ 7293034; omega⟩) hS (fun locs hS => ?_)
      refine lv_iload hx hb dL_law_465 (lv_at hl 1 rfl) ?_
      refine lv_icmp_eq (tgt := 472) hx hb dL_law_467 (by decide) (fun c_11 => ?_) (fun c_11 => ?_)
      · have f_12 := c_11
        refine lv_iload hx hb dL_law_472 (lv_at hl 1 rfl) ?_
        refine lv_if_ne (tgt := 489) hx hb dL_law_474 (by decide) (fun c_13 => ?_) (fun c_13 => ?_)
        · have f_14 : ¬ (0 : Int) = (0 : Int) := fun z => c_13 ((c_eq (nI_toInt (n := 0) (by omega)) rfl).mpr z)
          exfalso; omega
        · have f_15 : (0 : Int) = (0 : Int) := (c_eq (nI_toInt (n := 0) (by omega)) rfl).mp c_13
          refine lv_aload_n hx hb dL_law_477 rfl (lv_at hl 5 rfl) ?_
          refine lv_iconst (v := nI (0)) hx hb dL_law_478 (by decide) ?_
          refine gLald (j := 0) hx hb hC.K (PP_r (PP_l hP)) 0 4 rfl rfl rfl (by decide) (by decide) dL_law_479 ?_
          refine W.eq (g2 := F0 m 480 ls [.long ((nI (264)).toInt64)]) rfl ?_
          refine lv_iload hx hb dL_law_480 (lv_at hl 0 rfl) ?_
          refine lv_i2l (v := (nI (264)).toInt64) hx hb dL_law_482 (rfl) ?_
          refine W.lcmp hx hb dL_law_483 ?_
          refine topE (v' := nI (0)) (lg_self _) ?_
          refine lv_if_eq (tgt := 489) hx hb dL_law_484 (by decide) (fun c_16 => ?_) (fun c_16 => ?_)
          · have f_17 : (0 : Int) = (0 : Int) := (c_eq (nI_toInt (n := 0) (by omega)) rfl).mp c_16
            refine lv_goto (tgt := 1768) hx hb dL_law_489 (by decide) ?_
            exact hk H locs ls hP hD hS (lv_sub hl [2, 3, 4, 5, 6] rfl)
          · have f_18 : ¬ (0 : Int) = (0 : Int) := fun z => c_16 ((c_eq (nI_toInt (n := 0) (by omega)) rfl).mpr z)
            exfalso; omega
      · have f_19 := c_11
        exact absurd rfl f_19
    · have f_20 : ¬ (xs (i + 1)).toInt = 0 := fun z => c_6 (Int32.toInt_inj.mp (z.trans (by decide)))
      exfalso; omega
  · have f_21 : ¬ (xs (i + 1)).toInt = 0 := fun z => c_1 (Int32.toInt_inj.mp (z.trans (by decide)))
    exfalso; omega

set_option maxHeartbeats 4000000 in
set_option maxRecDepth 100000 in
theorem lw_3_x0 {pg : Program} {l : Launch} {ev : Env} {s : State} {m : MethodId} {below : List Frame} {meth : Method} {c : Code} {Q : State → Prop} {G : GT} {bq L : Nat} {xs : Nat → Int32} (hLK : LK pg l s m meth c bq L xs G) (c0 s0 : Nat) (hroom : c0 + 1 ≤ 601024 ∧ s0 + 6 ≤ 7293034) (a : Nat → Nat) (v : SVT) (mo ki : Nat → Nat) (pr df : Nat → Int) (co : Int32) (bi : Nat) (g9 : Nat → Int32) (lr : Nat) (bf : Nat → Int) (tn : Nat → Nat) (ln nx ct : Nat) (hv : Nat → SVT) (v0 : SVT) (k0 : Nat) (v1 : SVT) (k1 : Nat) (oa : Nat) (of : Nat → Int64) (mh m1 m2 m3 m4 m5 : Nat) (ss hi sl : Nat → Int) (tx : Nat → Nat) (ne : Nat → Int) (th : Int32) (kn ke le : Nat) (sp wr si on tw dn : Int32) (i : Nat) (x0 : Int32) (hi5 : i + 5 ≤ L) (hkd : 1 ≤ v.2.2.2.2.2.2.1 ∧ v.2.2.2.2.2.2.1 ≤ 20) (hpi : v.2.2.2.2.2.2.2.1 ≤ 999) (hms : ¬ v.2.2.2.2.2.2.2.1 < 999) (hMR : MR ss) (hms' : ¬ ss 194 < 999) (hz : (xs (i + 1)).toInt = 0) {H : Heap} {locs : List Loc} {ls : Array Slot} (hP : PP G (lwW G a v mo ki pr df co bi g9 lr bf tn ln nx ct hv v0 k0 v1 k1 oa of mh m1 m2 m3 m4 m5 ss hi sl tx ne th kn ke le sp wr si on tw dn) H) (hD : va_D (lo G) (lwW G a v mo ki pr df co bi g9 lr bf tn ln nx ct hv v0 k0 v1 k1 oa of mh m1 m2 m3 m4 m5 ss hi sl tx ne th kn ke le sp wr si on tw dn)) (hS : va_S (lo G) s.heap H locs) (hl : lv_has ls 7 [(0, .ref bq), (1, .ref (a 0)), (2, .ref mh), (3, .ref oa), (4, .int (nI (i)))])
    (hk : ∀ (H : Heap) (locs : List Loc) (ls : Array Slot), PP G (lwW G a v mo ki pr df co bi g9 lr bf tn ln nx ct hv v0 k0 v1 k1 oa of mh m1 m2 m3 m4 m5 ss hi sl tx ne (nI 1) kn ke le sp wr si on tw dn) H → va_D (lo G) (lwW G a v mo ki pr df co bi g9 lr bf tn ln nx ct hv v0 k0 v1 k1 oa of mh m1 m2 m3 m4 m5 ss hi sl tx ne (nI 1) kn ke le sp wr si on tw dn) → va_S (lo G) s.heap H locs → lv_has ls 7 [(0, .ref bq), (1, .ref (a 0)), (2, .ref mh), (3, .ref oa), (4, .int (nI (i)))] → W pg l ev room_1 s m #[Value.ref bq] below meth c H locs (c0 + 1) (s0 + 6) Q (F0 m 1768 ls [])) :
    W pg l ev room_1 s m #[Value.ref bq] below meth c H locs c0 s0 Q (F0 m 420 ls []) := by
  obtain ⟨hx, hb, hml, hown, hts, hX, hbl, hCX, hgB, hfl, hL9⟩ := hLK
  have hC := hCX.1
  have hLo : ∀ q, lo G q → lo G q := fun _ h => h
  have hA : ∀ q, s.heap.size ≤ q → lo G q := fun q h => by show gB G ≤ q; rw [hgB]; exact h
  have hbA : ¬ lo G bq := by show ¬ gB G ≤ bq; rw [hgB]; omega
  refine lv_aload_n hx hb dL_law_420 rfl (lv_at hl 1 rfl) ?_
  refine lv_aload_n hx hb dL_law_421 rfl (lv_at hl 0 rfl) ?_
  refine lv_iload hx hb dL_law_422 (lv_at hl 4 rfl) ?_
  refine lv_iconst (v := nI (1)) hx hb dL_law_424 (by decide) ?_
  refine gAdd (z := nI (i + 1)) hx hb dL_law_425 (nI_add _ _) ?_
  refine gScr (i := i + 1) (v := xs (i + 1)) hx hb hX hbl hbA hS (by omega) hL9 rfl dL_law_426 ?_
  refine lv_if_eq (tgt := 434) hx hb dL_law_427 (by decide) (fun c_1 => ?_) (fun c_1 => ?_)
  · have f_2 : (xs (i + 1)).toInt = 0 := by rw [c_1]; rfl
    refine lv_iconst (v := nI (0)) hx hb dL_law_434 (by decide) ?_
    refine lv_aload_n hx hb dL_law_435 rfl (lv_at hl 3 rfl) ?_
    refine kPreI (vx_runSW (As := [.ref (a 0), .int (nI (0)), .ref oa]) (rest := []) ⟨hx, hb, hml, hown, hts⟩ (c_L_send_1 a v mo ki pr df co bi g9 lr bf tn ln nx ct hv v0 k0 v1 k1 oa of (nI (0)) (hkd) (hpi) (hms) hfl (PP_l hP) ((pre_D hD).weaken (fun _ _ _ h => hLo _ h))) (vx_cwSW 3 hts gL_law_L_send rfl rfl rfl (by decide +kernel) ⟨(Nat.le_of_ble_eq_true rfl), (Nat.le_of_ble_eq_true rfl)⟩) (preSX hCX hS hLo) rfl rfl hl.1 rfl (lv_room (Nat.le_of_ble_eq_true rfl)) dL_law_436 ⟨by show c0 + _ ≤ 601024; omega, by show s0 + _ ≤ 7293034; omega⟩) hP hD hS hA (fun _ => lw_fst) (fun r_5 u_3 H locs q_4 hP hD hS => ?_)
    have hP : PP G (lwW G a v mo ki pr df co bi g9 lr bf tn ln nx ct hv v0 k0 v1 k1 oa of mh m1 m2 m3 m4 m5 ss hi sl tx ne th kn ke le sp wr si on tw dn) H := hP
    have hD : va_D (lo G) (lwW G a v mo ki pr df co bi g9 lr bf tn ln nx ct hv v0 k0 v1 k1 oa of mh m1 m2 m3 m4 m5 ss hi sl tx ne th kn ke le sp wr si on tw dn) := hD
    refine topE (v' := nI (1)) (q_4) ?_
    refine lv_istore (lv' := [(5, .int (nI (1))), (0, .ref bq), (1, .ref (a 0)), (2, .ref mh), (3, .ref oa), (4, .int (nI (i)))]) hx hb dL_law_439 hl (by decide) rfl (fun ls hl => ?_)
    refine lv_aload_n hx hb dL_law_441 rfl (lv_at hl 3 rfl) ?_
    refine lv_aload_n hx hb dL_law_442 rfl (lv_at hl 1 rfl) ?_
    refine lv_iload hx hb dL_law_443 (lv_at hl 5 rfl) ?_
    refine lv_iconst (v := nI (1)) hx hb dL_law_445 (by decide) ?_
    refine gAdd (z := nI (i + 1)) hx hb dL_law_446 (nI_add _ _) ?_
    refine gScr (i := i + 1) (v := xs (i + 1)) hx hb hX hbl hbA hS (by omega) hL9 rfl dL_law_447 ?_
    refine lv_if_eq (tgt := 455) hx hb dL_law_448 (by decide) (fun c_6 => ?_) (fun c_6 => ?_)
    · have f_7 : (xs (i + 1)).toInt = 0 := by rw [c_6]; rfl
      refine lv_iconst (v := nI (0)) hx hb dL_law_455 (by decide) ?_
      refine kSufI (va_runV (As := [.int (nI (0))]) (rest := []) ⟨hx, hb, hml, hown, hts⟩ (c_X9_send_1 mh m1 m2 m3 m4 m5 ss hi sl tx ne th kn ke le sp wr si on tw dn (nI (0)) (hMR) (hms') (PP_r hP) ((pre_D (va_D_swap hD)).weaken (fun _ _ _ h => hLo _ h))) (cwV 1 hts gL_law_X9_send rfl rfl rfl (by decide +kernel) ⟨(Nat.le_of_ble_eq_true rfl), (Nat.le_of_ble_eq_true rfl)⟩) (preV hC hS hLo (PP_r hP) (ci := 8) (q0 := 0) rfl rfl) rfl rfl hl.1 rfl (lv_room (Nat.le_of_ble_eq_true rfl)) dL_law_456 ⟨by show c0 + _ ≤ 601024; omega, by show s0 + _ ≤ 7293034; omega⟩) hP hD hS hA (fun _ => rfl) (fun r_10 u_8 H locs q_9 hP hD hS => ?_)
      have hP : PP G (lwW G a v mo ki pr df co bi g9 lr bf tn ln nx ct hv v0 k0 v1 k1 oa of mh m1 m2 m3 m4 m5 ss hi sl tx ne (nI 1) kn ke le sp wr si on tw dn) H := hP
      have hD : va_D (lo G) (lwW G a v mo ki pr df co bi g9 lr bf tn ln nx ct hv v0 k0 v1 k1 oa of mh m1 m2 m3 m4 m5 ss hi sl tx ne (nI 1) kn ke le sp wr si on tw dn) := hD
      refine topE (v' := nI (0)) (q_9) ?_
      refine lv_istore (lv' := [(6, .int (nI (0))), (5, .int (nI (1))), (0, .ref bq), (1, .ref (a 0)), (2, .ref mh), (3, .ref oa), (4, .int (nI (i)))]) hx hb dL_law_459 hl (by decide) rfl (fun ls hl => ?_)
      refine lv_aload_n hx hb dL_law_461 rfl (lv_at hl 4 rfl) ?_
      refine kPi (va_runV (As := []) (rest := []) ⟨hx, hb, hml, hown, hts⟩ (c_X9_thrown mh m1 m2 m3 m4 m5 ss hi sl tx ne (nI (1)) kn ke le sp wr si on tw dn (PP_r hP)) (cwV 0 hts gL_law_X9_thrown rfl rfl rfl (by decide +kernel) ⟨(Nat.le_of_ble_eq_true rfl), (Nat.le_of_ble_eq_true rfl)⟩) (preV hC hS hLo (PP_r hP) (ci := 8) (q0 := 0) rfl rfl) rfl rfl hl.1 rfl (lv_room (Nat.le_of_ble_eq_true rfl)) dL_law_462 ⟨by show c0 + _ ≤ 601024; omega, by show s0 + _ ≤ 7293034; omega⟩) hS (fun locs hS => ?_)
      refine lv_iload hx hb dL_law_465 (lv_at hl 1 rfl) ?_
      refine lv_icmp_eq (tgt := 472) hx hb dL_law_467 (by decide) (fun c_11 => ?_) (fun c_11 => ?_)
      · have f_12 := c_11
        refine lv_iload hx hb dL_law_472 (lv_at hl 1 rfl) ?_
        refine lv_if_ne (tgt := 489) hx hb dL_law_474 (by decide) (fun c_13 => ?_) (fun c_13 => ?_)
        · have f_14 : ¬ (1 : Int) = (0 : Int) := fun z => c_13 ((c_eq (nI_toInt (n := 1) (by omega)) rfl).mpr z)
          refine lv_goto (tgt := 1768) hx hb dL_law_489 (by decide) ?_
          exact hk H locs ls hP hD hS (lv_sub hl [2, 3, 4, 5, 6] rfl)
        · have f_15 : (1 : Int) = (0 : Int) := (c_eq (nI_toInt (n := 1) (by omega)) rfl).mp c_13
          exfalso; omega
      · have f_16 := c_11
        exact absurd rfl f_16
    · have f_17 : ¬ (xs (i + 1)).toInt = 0 := fun z => c_6 (Int32.toInt_inj.mp (z.trans (by decide)))
      exfalso; omega
  · have f_18 : ¬ (xs (i + 1)).toInt = 0 := fun z => c_1 (Int32.toInt_inj.mp (z.trans (by decide)))
    exfalso; omega

set_option maxHeartbeats 4000000 in
set_option maxRecDepth 100000 in
theorem lw_3_n1 {pg : Program} {l : Launch} {ev : Env} {s : State} {m : MethodId} {below : List Frame} {meth : Method} {c : Code} {Q : State → Prop} {G : GT} {bq L : Nat} {xs : Nat → Int32} (hLK : LK pg l s m meth c bq L xs G) (c0 s0 : Nat) (hroom : c0 + 1 ≤ 601024 ∧ s0 + 6 ≤ 7293034) (a : Nat → Nat) (v : SVT) (mo ki : Nat → Nat) (pr df : Nat → Int) (co : Int32) (bi : Nat) (g9 : Nat → Int32) (lr : Nat) (bf : Nat → Int) (tn : Nat → Nat) (ln nx ct : Nat) (hv : Nat → SVT) (v0 : SVT) (k0 : Nat) (v1 : SVT) (k1 : Nat) (oa : Nat) (of : Nat → Int64) (mh m1 m2 m3 m4 m5 : Nat) (ss hi sl : Nat → Int) (tx : Nat → Nat) (ne : Nat → Int) (th : Int32) (kn ke le : Nat) (sp wr si on tw dn : Int32) (i : Nat) (hi5 : i + 5 ≤ L) (hnx : nx < 6) (hct : ct ≤ 6) (hms : v.2.2.2.2.2.2.2.1 < 999) (hd : R15 v.1) (ht : R15 v.2.1) (hg : R15 v.2.2.1) (hdf : D15 df) (hmo : M25 mo) (hkd : 1 ≤ v.2.2.2.2.2.2.1 ∧ v.2.2.2.2.2.2.1 ≤ 20) (hpi : v.2.2.2.2.2.2.2.1 ≤ 999) (hkey : ¬ v.2.2.2.2.2.2.2.1 % v.2.2.2.2.2.2.1 = 0) (hbu : v.2.2.2.2.2.1 ≤ 300) (hkn : kn ≤ 6) (hMR : MR ss) (hkey' : ¬ (ss 194).toNat % (ss 193).toNat = 0) (hms' : ss 194 < 999) (hz : ¬ (xs (i + 1)).toInt = 0) (heq : nI (ABM (dS ss) (tS ss) (COM (dS ss) (tS ss) (ss 192).toNat) 4) = nI (ABM v.1 v.2.1 (COM v.1 v.2.1 v.2.2.2.2.2.1) 4)) {H : Heap} {locs : List Loc} {ls : Array Slot} (hP : PP G (lwW G a v mo ki pr df co bi g9 lr bf tn ln nx ct hv v0 k0 v1 k1 oa of mh m1 m2 m3 m4 m5 ss hi sl tx ne th kn ke le sp wr si on tw dn) H) (hD : va_D (lo G) (lwW G a v mo ki pr df co bi g9 lr bf tn ln nx ct hv v0 k0 v1 k1 oa of mh m1 m2 m3 m4 m5 ss hi sl tx ne th kn ke le sp wr si on tw dn)) (hS : va_S (lo G) s.heap H locs) (hl : lv_has ls 7 [(0, .ref bq), (1, .ref (a 0)), (2, .ref mh), (3, .ref oa), (4, .int (nI (i)))])
    (hk : ∀ (H : Heap) (locs : List Loc) (ls : Array Slot), PP G (lwW G a (v.1, nT v.1 v.2.1 v.2.2.2.2.2.1, v.2.2.1, knN v.1 v.2.1 v.2.2.2.2.2.1, BEST v.1 v.2.1, v.2.2.2.2.2.1, v.2.2.2.2.2.2.1, v.2.2.2.2.2.2.2.1 + 1, v.2.2.2.2.2.2.2.2.1 + 1, v.2.2.2.2.2.2.2.2.2 + ABM v.1 v.2.1 (COM v.1 v.2.1 v.2.2.2.2.2.1) 4) (BEST v.1 v.2.1) (knN v.1 v.2.1 v.2.2.2.2.2.1) (pN v.1 v.2.1) (dN v.1 v.2.1) (nI (COM v.1 v.2.1 v.2.2.2.2.2.1)) (ABM v.1 v.2.1 (COM v.1 v.2.1 v.2.2.2.2.2.1) 4) g9 lr bf tn ln ((nx + 1) % 6) (min (ct + 1) 6) (va_up hv nx v) v0 k0 v1 k1 oa (vp_updL of 0 ((nI (ABM v.1 v.2.1 (COM v.1 v.2.1 v.2.2.2.2.2.1) 4)).toInt64)) mh m1 m2 m3 m4 m5 (sdR ss (nT (dS ss) (tS ss) (ss 192).toNat) (nG (dS ss) (tS ss) (rS ss) (ss 192).toNat) (knN (dS ss) (tS ss) (ss 192).toNat) (BEST (dS ss) (tS ss)) (ABM (dS ss) (tS ss) (COM (dS ss) (tS ss) (ss 192).toNat) 4) 1) (recH hi ss kn) sl tx (nxP (nT (dS ss) (tS ss) (ss 192).toNat) (nG (dS ss) (tS ss) (rS ss) (ss 192).toNat) ne 4) (nI 0) (min (kn + 1) 6) ke le sp wr si on tw dn) H → va_D (lo G) (lwW G a (v.1, nT v.1 v.2.1 v.2.2.2.2.2.1, v.2.2.1, knN v.1 v.2.1 v.2.2.2.2.2.1, BEST v.1 v.2.1, v.2.2.2.2.2.1, v.2.2.2.2.2.2.1, v.2.2.2.2.2.2.2.1 + 1, v.2.2.2.2.2.2.2.2.1 + 1, v.2.2.2.2.2.2.2.2.2 + ABM v.1 v.2.1 (COM v.1 v.2.1 v.2.2.2.2.2.1) 4) (BEST v.1 v.2.1) (knN v.1 v.2.1 v.2.2.2.2.2.1) (pN v.1 v.2.1) (dN v.1 v.2.1) (nI (COM v.1 v.2.1 v.2.2.2.2.2.1)) (ABM v.1 v.2.1 (COM v.1 v.2.1 v.2.2.2.2.2.1) 4) g9 lr bf tn ln ((nx + 1) % 6) (min (ct + 1) 6) (va_up hv nx v) v0 k0 v1 k1 oa (vp_updL of 0 ((nI (ABM v.1 v.2.1 (COM v.1 v.2.1 v.2.2.2.2.2.1) 4)).toInt64)) mh m1 m2 m3 m4 m5 (sdR ss (nT (dS ss) (tS ss) (ss 192).toNat) (nG (dS ss) (tS ss) (rS ss) (ss 192).toNat) (knN (dS ss) (tS ss) (ss 192).toNat) (BEST (dS ss) (tS ss)) (ABM (dS ss) (tS ss) (COM (dS ss) (tS ss) (ss 192).toNat) 4) 1) (recH hi ss kn) sl tx (nxP (nT (dS ss) (tS ss) (ss 192).toNat) (nG (dS ss) (tS ss) (rS ss) (ss 192).toNat) ne 4) (nI 0) (min (kn + 1) 6) ke le sp wr si on tw dn) → va_S (lo G) s.heap H locs → lv_has ls 7 [(0, .ref bq), (1, .ref (a 0)), (2, .ref mh), (3, .ref oa), (4, .int (nI (i)))] → W pg l ev room_1 s m #[Value.ref bq] below meth c H locs (c0 + 0) (s0 + 0) Q (F0 m 1768 ls [])) :
    W pg l ev room_1 s m #[Value.ref bq] below meth c H locs c0 s0 Q (F0 m 420 ls []) := by
  obtain ⟨hx, hb, hml, hown, hts, hX, hbl, hCX, hgB, hfl, hL9⟩ := hLK
  have hC := hCX.1
  have hLo : ∀ q, lo G q → lo G q := fun _ h => h
  have hA : ∀ q, s.heap.size ≤ q → lo G q := fun q h => by show gB G ≤ q; rw [hgB]; exact h
  have hbA : ¬ lo G bq := by show ¬ gB G ≤ bq; rw [hgB]; omega
  refine lv_aload_n hx hb dL_law_420 rfl (lv_at hl 1 rfl) ?_
  refine lv_aload_n hx hb dL_law_421 rfl (lv_at hl 0 rfl) ?_
  refine lv_iload hx hb dL_law_422 (lv_at hl 4 rfl) ?_
  refine lv_iconst (v := nI (1)) hx hb dL_law_424 (by decide) ?_
  refine gAdd (z := nI (i + 1)) hx hb dL_law_425 (nI_add _ _) ?_
  refine gScr (i := i + 1) (v := xs (i + 1)) hx hb hX hbl hbA hS (by omega) hL9 rfl dL_law_426 ?_
  refine lv_if_eq (tgt := 434) hx hb dL_law_427 (by decide) (fun c_1 => ?_) (fun c_1 => ?_)
  · have f_2 : (xs (i + 1)).toInt = 0 := by rw [c_1]; rfl
    exfalso; omega
  · have f_3 : ¬ (xs (i + 1)).toInt = 0 := fun z => c_1 (Int32.toInt_inj.mp (z.trans (by decide)))
    refine lv_iconst (v := nI (1)) hx hb dL_law_430 (by decide) ?_
    refine lv_goto (tgt := 435) hx hb dL_law_431 (by decide) ?_
    refine lv_aload_n hx hb dL_law_435 rfl (lv_at hl 3 rfl) ?_
    refine kPreI (vx_runSW (As := [.ref (a 0), .int (nI (1)), .ref oa]) (rest := []) ⟨hx, hb, hml, hown, hts⟩ (c_L_send_n1 a v mo ki pr df co bi g9 lr bf tn ln nx ct hv v0 k0 v1 k1 oa of (hnx) (hct) (hms) (hd) (ht) (hg) (hdf) (hmo) (hkd) (hpi) (hkey) (hbu) (PP_l hP) ((pre_D hD).weaken (fun _ _ _ h => hLo _ h))) (vx_cwSW 3 hts gL_law_L_send rfl rfl rfl (by decide +kernel) ⟨(Nat.le_of_ble_eq_true rfl), (Nat.le_of_ble_eq_true rfl)⟩) (preS hC hS hLo) rfl rfl hl.1 rfl (lv_room (Nat.le_of_ble_eq_true rfl)) dL_law_436 ⟨by show c0 + _ ≤ 601024; omega, by show s0 + _ ≤ 7293034; omega⟩) hP hD hS hA (fun _ => lw_fst) (fun r_6 u_4 H locs q_5 hP hD hS => ?_)
    have hP : PP G (lwW G a (v.1, nT v.1 v.2.1 v.2.2.2.2.2.1, v.2.2.1, knN v.1 v.2.1 v.2.2.2.2.2.1, BEST v.1 v.2.1, v.2.2.2.2.2.1, v.2.2.2.2.2.2.1, v.2.2.2.2.2.2.2.1 + 1, v.2.2.2.2.2.2.2.2.1 + 1, v.2.2.2.2.2.2.2.2.2 + ABM v.1 v.2.1 (COM v.1 v.2.1 v.2.2.2.2.2.1) 4) (BEST v.1 v.2.1) (knN v.1 v.2.1 v.2.2.2.2.2.1) (pN v.1 v.2.1) (dN v.1 v.2.1) (nI (COM v.1 v.2.1 v.2.2.2.2.2.1)) (ABM v.1 v.2.1 (COM v.1 v.2.1 v.2.2.2.2.2.1) 4) g9 lr bf tn ln ((nx + 1) % 6) (min (ct + 1) 6) (va_up hv nx v) v0 k0 v1 k1 oa (vp_updL of 0 ((nI (ABM v.1 v.2.1 (COM v.1 v.2.1 v.2.2.2.2.2.1) 4)).toInt64)) mh m1 m2 m3 m4 m5 ss hi sl tx ne th kn ke le sp wr si on tw dn) H := hP
    have hD : va_D (lo G) (lwW G a (v.1, nT v.1 v.2.1 v.2.2.2.2.2.1, v.2.2.1, knN v.1 v.2.1 v.2.2.2.2.2.1, BEST v.1 v.2.1, v.2.2.2.2.2.1, v.2.2.2.2.2.2.1, v.2.2.2.2.2.2.2.1 + 1, v.2.2.2.2.2.2.2.2.1 + 1, v.2.2.2.2.2.2.2.2.2 + ABM v.1 v.2.1 (COM v.1 v.2.1 v.2.2.2.2.2.1) 4) (BEST v.1 v.2.1) (knN v.1 v.2.1 v.2.2.2.2.2.1) (pN v.1 v.2.1) (dN v.1 v.2.1) (nI (COM v.1 v.2.1 v.2.2.2.2.2.1)) (ABM v.1 v.2.1 (COM v.1 v.2.1 v.2.2.2.2.2.1) 4) g9 lr bf tn ln ((nx + 1) % 6) (min (ct + 1) 6) (va_up hv nx v) v0 k0 v1 k1 oa (vp_updL of 0 ((nI (ABM v.1 v.2.1 (COM v.1 v.2.1 v.2.2.2.2.2.1) 4)).toInt64)) mh m1 m2 m3 m4 m5 ss hi sl tx ne th kn ke le sp wr si on tw dn) := hD
    refine topE (v' := nI (0)) (q_5) ?_
    refine lv_istore (lv' := [(5, .int (nI (0))), (0, .ref bq), (1, .ref (a 0)), (2, .ref mh), (3, .ref oa), (4, .int (nI (i)))]) hx hb dL_law_439 hl (by decide) rfl (fun ls hl => ?_)
    refine lv_aload_n hx hb dL_law_441 rfl (lv_at hl 3 rfl) ?_
    refine lv_aload_n hx hb dL_law_442 rfl (lv_at hl 1 rfl) ?_
    refine lv_iload hx hb dL_law_443 (lv_at hl 5 rfl) ?_
    refine lv_iconst (v := nI (1)) hx hb dL_law_445 (by decide) ?_
    refine gAdd (z := nI (i + 1)) hx hb dL_law_446 (nI_add _ _) ?_
    refine gScr (i := i + 1) (v := xs (i + 1)) hx hb hX hbl hbA hS (by omega) hL9 rfl dL_law_447 ?_
    refine lv_if_eq (tgt := 455) hx hb dL_law_448 (by decide) (fun c_7 => ?_) (fun c_7 => ?_)
    · have f_8 : (xs (i + 1)).toInt = 0 := by rw [c_7]; rfl
      exfalso; omega
    · have f_9 : ¬ (xs (i + 1)).toInt = 0 := fun z => c_7 (Int32.toInt_inj.mp (z.trans (by decide)))
      refine lv_iconst (v := nI (1)) hx hb dL_law_451 (by decide) ?_
      refine lv_goto (tgt := 456) hx hb dL_law_452 (by decide) ?_
      refine kSufI (va_runV (As := [.int (nI (1))]) (rest := []) ⟨hx, hb, hml, hown, hts⟩ (c_X9_send_n1 mh m1 m2 m3 m4 m5 ss hi sl tx ne th kn ke le sp wr si on tw dn (hkn) (hMR) (hkey') (hms') (PP_r hP) ((pre_D (va_D_swap hD)).weaken (fun _ _ _ h => hLo _ h))) (cwV 1 hts gL_law_X9_send rfl rfl rfl (by decide +kernel) ⟨(Nat.le_of_ble_eq_true rfl), (Nat.le_of_ble_eq_true rfl)⟩) (preV hC hS hLo (PP_r hP) (ci := 8) (q0 := 0) rfl rfl) rfl rfl hl.1 rfl (lv_room (Nat.le_of_ble_eq_true rfl)) dL_law_456 ⟨by show c0 + _ ≤ 601024; omega, by show s0 + _ ≤ 7293034; omega⟩) hP hD hS hA (fun _ => rfl) (fun r_12 u_10 H locs q_11 hP hD hS => ?_)
      have hP : PP G (lwW G a (v.1, nT v.1 v.2.1 v.2.2.2.2.2.1, v.2.2.1, knN v.1 v.2.1 v.2.2.2.2.2.1, BEST v.1 v.2.1, v.2.2.2.2.2.1, v.2.2.2.2.2.2.1, v.2.2.2.2.2.2.2.1 + 1, v.2.2.2.2.2.2.2.2.1 + 1, v.2.2.2.2.2.2.2.2.2 + ABM v.1 v.2.1 (COM v.1 v.2.1 v.2.2.2.2.2.1) 4) (BEST v.1 v.2.1) (knN v.1 v.2.1 v.2.2.2.2.2.1) (pN v.1 v.2.1) (dN v.1 v.2.1) (nI (COM v.1 v.2.1 v.2.2.2.2.2.1)) (ABM v.1 v.2.1 (COM v.1 v.2.1 v.2.2.2.2.2.1) 4) g9 lr bf tn ln ((nx + 1) % 6) (min (ct + 1) 6) (va_up hv nx v) v0 k0 v1 k1 oa (vp_updL of 0 ((nI (ABM v.1 v.2.1 (COM v.1 v.2.1 v.2.2.2.2.2.1) 4)).toInt64)) mh m1 m2 m3 m4 m5 (sdR ss (nT (dS ss) (tS ss) (ss 192).toNat) (nG (dS ss) (tS ss) (rS ss) (ss 192).toNat) (knN (dS ss) (tS ss) (ss 192).toNat) (BEST (dS ss) (tS ss)) (ABM (dS ss) (tS ss) (COM (dS ss) (tS ss) (ss 192).toNat) 4) 1) (recH hi ss kn) sl tx (nxP (nT (dS ss) (tS ss) (ss 192).toNat) (nG (dS ss) (tS ss) (rS ss) (ss 192).toNat) ne 4) (nI 0) (min (kn + 1) 6) ke le sp wr si on tw dn) H := hP
      have hD : va_D (lo G) (lwW G a (v.1, nT v.1 v.2.1 v.2.2.2.2.2.1, v.2.2.1, knN v.1 v.2.1 v.2.2.2.2.2.1, BEST v.1 v.2.1, v.2.2.2.2.2.1, v.2.2.2.2.2.2.1, v.2.2.2.2.2.2.2.1 + 1, v.2.2.2.2.2.2.2.2.1 + 1, v.2.2.2.2.2.2.2.2.2 + ABM v.1 v.2.1 (COM v.1 v.2.1 v.2.2.2.2.2.1) 4) (BEST v.1 v.2.1) (knN v.1 v.2.1 v.2.2.2.2.2.1) (pN v.1 v.2.1) (dN v.1 v.2.1) (nI (COM v.1 v.2.1 v.2.2.2.2.2.1)) (ABM v.1 v.2.1 (COM v.1 v.2.1 v.2.2.2.2.2.1) 4) g9 lr bf tn ln ((nx + 1) % 6) (min (ct + 1) 6) (va_up hv nx v) v0 k0 v1 k1 oa (vp_updL of 0 ((nI (ABM v.1 v.2.1 (COM v.1 v.2.1 v.2.2.2.2.2.1) 4)).toInt64)) mh m1 m2 m3 m4 m5 (sdR ss (nT (dS ss) (tS ss) (ss 192).toNat) (nG (dS ss) (tS ss) (rS ss) (ss 192).toNat) (knN (dS ss) (tS ss) (ss 192).toNat) (BEST (dS ss) (tS ss)) (ABM (dS ss) (tS ss) (COM (dS ss) (tS ss) (ss 192).toNat) 4) 1) (recH hi ss kn) sl tx (nxP (nT (dS ss) (tS ss) (ss 192).toNat) (nG (dS ss) (tS ss) (rS ss) (ss 192).toNat) ne 4) (nI 0) (min (kn + 1) 6) ke le sp wr si on tw dn) := hD
      refine topE (v' := nI (ABM v.1 v.2.1 (COM v.1 v.2.1 v.2.2.2.2.2.1) 4)) (q_11.trans (heq)) ?_
      refine lv_istore (lv' := [(6, .int (nI (ABM v.1 v.2.1 (COM v.1 v.2.1 v.2.2.2.2.2.1) 4))), (5, .int (nI (0))), (0, .ref bq), (1, .ref (a 0)), (2, .ref mh), (3, .ref oa), (4, .int (nI (i)))]) hx hb dL_law_459 hl (by decide) rfl (fun ls hl => ?_)
      refine lv_aload_n hx hb dL_law_461 rfl (lv_at hl 4 rfl) ?_
      refine kPi (va_runV (As := []) (rest := []) ⟨hx, hb, hml, hown, hts⟩ (c_X9_thrown mh m1 m2 m3 m4 m5 (sdR ss (nT (dS ss) (tS ss) (ss 192).toNat) (nG (dS ss) (tS ss) (rS ss) (ss 192).toNat) (knN (dS ss) (tS ss) (ss 192).toNat) (BEST (dS ss) (tS ss)) (ABM (dS ss) (tS ss) (COM (dS ss) (tS ss) (ss 192).toNat) 4) 1) (recH hi ss kn) sl tx (nxP (nT (dS ss) (tS ss) (ss 192).toNat) (nG (dS ss) (tS ss) (rS ss) (ss 192).toNat) ne 4) (nI (0)) (min (kn + 1) 6) ke le sp wr si on tw dn (PP_r hP)) (cwV 0 hts gL_law_X9_thrown rfl rfl rfl (by decide +kernel) ⟨(Nat.le_of_ble_eq_true rfl), (Nat.le_of_ble_eq_true rfl)⟩) (preV hC hS hLo (PP_r hP) (ci := 8) (q0 := 0) rfl rfl) rfl rfl hl.1 rfl (lv_room (Nat.le_of_ble_eq_true rfl)) dL_law_462 ⟨by show c0 + _ ≤ 601024; omega, by show s0 + _ ≤ 7293034; omega⟩) hS (fun locs hS => ?_)
      refine lv_iload hx hb dL_law_465 (lv_at hl 1 rfl) ?_
      refine lv_icmp_eq (tgt := 472) hx hb dL_law_467 (by decide) (fun c_13 => ?_) (fun c_13 => ?_)
      · have f_14 := c_13
        refine lv_iload hx hb dL_law_472 (lv_at hl 1 rfl) ?_
        refine lv_if_ne (tgt := 489) hx hb dL_law_474 (by decide) (fun c_15 => ?_) (fun c_15 => ?_)
        · have f_16 : ¬ (0 : Int) = (0 : Int) := fun z => c_15 ((c_eq (nI_toInt (n := 0) (by omega)) rfl).mpr z)
          exfalso; omega
        · have f_17 : (0 : Int) = (0 : Int) := (c_eq (nI_toInt (n := 0) (by omega)) rfl).mp c_15
          refine lv_aload_n hx hb dL_law_477 rfl (lv_at hl 5 rfl) ?_
          refine lv_iconst (v := nI (0)) hx hb dL_law_478 (by decide) ?_
          refine gLald (j := 0) hx hb hC.K (PP_r (PP_l hP)) 0 4 rfl rfl rfl (by decide) (by decide) dL_law_479 ?_
          refine W.eq (g2 := F0 m 480 ls [.long ((nI (ABM v.1 v.2.1 (COM v.1 v.2.1 v.2.2.2.2.2.1) 4)).toInt64)]) rfl ?_
          refine lv_iload hx hb dL_law_480 (lv_at hl 0 rfl) ?_
          refine lv_i2l (v := (nI (ABM v.1 v.2.1 (COM v.1 v.2.1 v.2.2.2.2.2.1) 4)).toInt64) hx hb dL_law_482 (rfl) ?_
          refine W.lcmp hx hb dL_law_483 ?_
          refine topE (v' := nI (0)) (lg_self _) ?_
          refine lv_if_eq (tgt := 489) hx hb dL_law_484 (by decide) (fun c_18 => ?_) (fun c_18 => ?_)
          · have f_19 : (0 : Int) = (0 : Int) := (c_eq (nI_toInt (n := 0) (by omega)) rfl).mp c_18
            refine lv_goto (tgt := 1768) hx hb dL_law_489 (by decide) ?_
            exact hk H locs ls hP hD hS (lv_sub hl [2, 3, 4, 5, 6] rfl)
          · have f_20 : ¬ (0 : Int) = (0 : Int) := fun z => c_18 ((c_eq (nI_toInt (n := 0) (by omega)) rfl).mpr z)
            exfalso; omega
      · have f_21 := c_13
        exact absurd rfl f_21

set_option maxHeartbeats 4000000 in
set_option maxRecDepth 100000 in
theorem lw_3_k1 {pg : Program} {l : Launch} {ev : Env} {s : State} {m : MethodId} {below : List Frame} {meth : Method} {c : Code} {Q : State → Prop} {G : GT} {bq L : Nat} {xs : Nat → Int32} (hLK : LK pg l s m meth c bq L xs G) (c0 s0 : Nat) (hroom : c0 + 1 ≤ 601024 ∧ s0 + 6 ≤ 7293034) (a : Nat → Nat) (v : SVT) (mo ki : Nat → Nat) (pr df : Nat → Int) (co : Int32) (bi : Nat) (g9 : Nat → Int32) (lr : Nat) (bf : Nat → Int) (tn : Nat → Nat) (ln nx ct : Nat) (hv : Nat → SVT) (v0 : SVT) (k0 : Nat) (v1 : SVT) (k1 : Nat) (oa : Nat) (of : Nat → Int64) (mh m1 m2 m3 m4 m5 : Nat) (ss hi sl : Nat → Int) (tx : Nat → Nat) (ne : Nat → Int) (th : Int32) (kn ke le : Nat) (sp wr si on tw dn : Int32) (i : Nat) (hi5 : i + 5 ≤ L) (hnx : nx < 6) (hct : ct ≤ 6) (hms : v.2.2.2.2.2.2.2.1 < 999) (hkd : 1 ≤ v.2.2.2.2.2.2.1 ∧ v.2.2.2.2.2.2.1 ≤ 20) (hpi : v.2.2.2.2.2.2.2.1 ≤ 999) (hkey : v.2.2.2.2.2.2.2.1 % v.2.2.2.2.2.2.1 = 0) (hkn : kn ≤ 6) (hMR : MR ss) (hkey' : (ss 194).toNat % (ss 193).toNat = 0) (hms' : ss 194 < 999) (hz : ¬ (xs (i + 1)).toInt = 0) (heq : nI (264) = nI (264)) {H : Heap} {locs : List Loc} {ls : Array Slot} (hP : PP G (lwW G a v mo ki pr df co bi g9 lr bf tn ln nx ct hv v0 k0 v1 k1 oa of mh m1 m2 m3 m4 m5 ss hi sl tx ne th kn ke le sp wr si on tw dn) H) (hD : va_D (lo G) (lwW G a v mo ki pr df co bi g9 lr bf tn ln nx ct hv v0 k0 v1 k1 oa of mh m1 m2 m3 m4 m5 ss hi sl tx ne th kn ke le sp wr si on tw dn)) (hS : va_S (lo G) s.heap H locs) (hl : lv_has ls 7 [(0, .ref bq), (1, .ref (a 0)), (2, .ref mh), (3, .ref oa), (4, .int (nI (i)))])
    (hk : ∀ (H : Heap) (locs : List Loc) (ls : Array Slot), PP G (lwW G a (v.1, v.1, v.2.2.1, fun _ => 0, mo, v.2.2.2.2.2.1, v.2.2.2.2.2.2.1, v.2.2.2.2.2.2.2.1 + 1, v.2.2.2.2.2.2.2.2.1 + 1, v.2.2.2.2.2.2.2.2.2 + 264) mo (fzK ki 4) pr df (iI (-1)) 264 g9 lr bf tn ln ((nx + 1) % 6) (min (ct + 1) 6) (va_up hv nx v) v0 k0 v1 k1 oa (vp_updL of 0 ((nI (264)).toInt64)) mh m1 m2 m3 m4 m5 (sdR ss (dS ss) (dS ss) (fun _ => 0) (BEST (dS ss) (tS ss)) (264) 1) (recH hi ss kn) sl tx (nxP (dS ss) (dS ss) ne 4) (nI 0) (min (kn + 1) 6) ke le sp wr si on tw dn) H → va_D (lo G) (lwW G a (v.1, v.1, v.2.2.1, fun _ => 0, mo, v.2.2.2.2.2.1, v.2.2.2.2.2.2.1, v.2.2.2.2.2.2.2.1 + 1, v.2.2.2.2.2.2.2.2.1 + 1, v.2.2.2.2.2.2.2.2.2 + 264) mo (fzK ki 4) pr df (iI (-1)) 264 g9 lr bf tn ln ((nx + 1) % 6) (min (ct + 1) 6) (va_up hv nx v) v0 k0 v1 k1 oa (vp_updL of 0 ((nI (264)).toInt64)) mh m1 m2 m3 m4 m5 (sdR ss (dS ss) (dS ss) (fun _ => 0) (BEST (dS ss) (tS ss)) (264) 1) (recH hi ss kn) sl tx (nxP (dS ss) (dS ss) ne 4) (nI 0) (min (kn + 1) 6) ke le sp wr si on tw dn) → va_S (lo G) s.heap H locs → lv_has ls 7 [(0, .ref bq), (1, .ref (a 0)), (2, .ref mh), (3, .ref oa), (4, .int (nI (i)))] → W pg l ev room_1 s m #[Value.ref bq] below meth c H locs (c0 + 0) (s0 + 0) Q (F0 m 1768 ls [])) :
    W pg l ev room_1 s m #[Value.ref bq] below meth c H locs c0 s0 Q (F0 m 420 ls []) := by
  obtain ⟨hx, hb, hml, hown, hts, hX, hbl, hCX, hgB, hfl, hL9⟩ := hLK
  have hC := hCX.1
  have hLo : ∀ q, lo G q → lo G q := fun _ h => h
  have hA : ∀ q, s.heap.size ≤ q → lo G q := fun q h => by show gB G ≤ q; rw [hgB]; exact h
  have hbA : ¬ lo G bq := by show ¬ gB G ≤ bq; rw [hgB]; omega
  refine lv_aload_n hx hb dL_law_420 rfl (lv_at hl 1 rfl) ?_
  refine lv_aload_n hx hb dL_law_421 rfl (lv_at hl 0 rfl) ?_
  refine lv_iload hx hb dL_law_422 (lv_at hl 4 rfl) ?_
  refine lv_iconst (v := nI (1)) hx hb dL_law_424 (by decide) ?_
  refine gAdd (z := nI (i + 1)) hx hb dL_law_425 (nI_add _ _) ?_
  refine gScr (i := i + 1) (v := xs (i + 1)) hx hb hX hbl hbA hS (by omega) hL9 rfl dL_law_426 ?_
  refine lv_if_eq (tgt := 434) hx hb dL_law_427 (by decide) (fun c_1 => ?_) (fun c_1 => ?_)
  · have f_2 : (xs (i + 1)).toInt = 0 := by rw [c_1]; rfl
    exfalso; omega
  · have f_3 : ¬ (xs (i + 1)).toInt = 0 := fun z => c_1 (Int32.toInt_inj.mp (z.trans (by decide)))
    refine lv_iconst (v := nI (1)) hx hb dL_law_430 (by decide) ?_
    refine lv_goto (tgt := 435) hx hb dL_law_431 (by decide) ?_
    refine lv_aload_n hx hb dL_law_435 rfl (lv_at hl 3 rfl) ?_
    refine kPreI (vx_runSW (As := [.ref (a 0), .int (nI (1)), .ref oa]) (rest := []) ⟨hx, hb, hml, hown, hts⟩ (c_L_send_k1 a v mo ki pr df co bi g9 lr bf tn ln nx ct hv v0 k0 v1 k1 oa of (hnx) (hct) (hms) (hkd) (hpi) (hkey) (PP_l hP) ((pre_D hD).weaken (fun _ _ _ h => hLo _ h))) (vx_cwSW 3 hts gL_law_L_send rfl rfl rfl (by decide +kernel) ⟨(Nat.le_of_ble_eq_true rfl), (Nat.le_of_ble_eq_true rfl)⟩) (preS hC hS hLo) rfl rfl hl.1 rfl (lv_room (Nat.le_of_ble_eq_true rfl)) dL_law_436 ⟨by show c0 + _ ≤ 601024; omega, by show s0 + _ ≤ 7293034; omega⟩) hP hD hS hA (fun _ => lw_fst) (fun r_6 u_4 H locs q_5 hP hD hS => ?_)
    have hP : PP G (lwW G a (v.1, v.1, v.2.2.1, fun _ => 0, mo, v.2.2.2.2.2.1, v.2.2.2.2.2.2.1, v.2.2.2.2.2.2.2.1 + 1, v.2.2.2.2.2.2.2.2.1 + 1, v.2.2.2.2.2.2.2.2.2 + 264) mo (fzK ki 4) pr df (iI (-1)) 264 g9 lr bf tn ln ((nx + 1) % 6) (min (ct + 1) 6) (va_up hv nx v) v0 k0 v1 k1 oa (vp_updL of 0 ((nI (264)).toInt64)) mh m1 m2 m3 m4 m5 ss hi sl tx ne th kn ke le sp wr si on tw dn) H := hP
    have hD : va_D (lo G) (lwW G a (v.1, v.1, v.2.2.1, fun _ => 0, mo, v.2.2.2.2.2.1, v.2.2.2.2.2.2.1, v.2.2.2.2.2.2.2.1 + 1, v.2.2.2.2.2.2.2.2.1 + 1, v.2.2.2.2.2.2.2.2.2 + 264) mo (fzK ki 4) pr df (iI (-1)) 264 g9 lr bf tn ln ((nx + 1) % 6) (min (ct + 1) 6) (va_up hv nx v) v0 k0 v1 k1 oa (vp_updL of 0 ((nI (264)).toInt64)) mh m1 m2 m3 m4 m5 ss hi sl tx ne th kn ke le sp wr si on tw dn) := hD
    refine topE (v' := nI (0)) (q_5) ?_
    refine lv_istore (lv' := [(5, .int (nI (0))), (0, .ref bq), (1, .ref (a 0)), (2, .ref mh), (3, .ref oa), (4, .int (nI (i)))]) hx hb dL_law_439 hl (by decide) rfl (fun ls hl => ?_)
    refine lv_aload_n hx hb dL_law_441 rfl (lv_at hl 3 rfl) ?_
    refine lv_aload_n hx hb dL_law_442 rfl (lv_at hl 1 rfl) ?_
    refine lv_iload hx hb dL_law_443 (lv_at hl 5 rfl) ?_
    refine lv_iconst (v := nI (1)) hx hb dL_law_445 (by decide) ?_
    refine gAdd (z := nI (i + 1)) hx hb dL_law_446 (nI_add _ _) ?_
    refine gScr (i := i + 1) (v := xs (i + 1)) hx hb hX hbl hbA hS (by omega) hL9 rfl dL_law_447 ?_
    refine lv_if_eq (tgt := 455) hx hb dL_law_448 (by decide) (fun c_7 => ?_) (fun c_7 => ?_)
    · have f_8 : (xs (i + 1)).toInt = 0 := by rw [c_7]; rfl
      exfalso; omega
    · have f_9 : ¬ (xs (i + 1)).toInt = 0 := fun z => c_7 (Int32.toInt_inj.mp (z.trans (by decide)))
      refine lv_iconst (v := nI (1)) hx hb dL_law_451 (by decide) ?_
      refine lv_goto (tgt := 456) hx hb dL_law_452 (by decide) ?_
      refine kSufI (va_runV (As := [.int (nI (1))]) (rest := []) ⟨hx, hb, hml, hown, hts⟩ (c_X9_send_k1 mh m1 m2 m3 m4 m5 ss hi sl tx ne th kn ke le sp wr si on tw dn (hkn) (hMR) (hkey') (hms') (PP_r hP) ((pre_D (va_D_swap hD)).weaken (fun _ _ _ h => hLo _ h))) (cwV 1 hts gL_law_X9_send rfl rfl rfl (by decide +kernel) ⟨(Nat.le_of_ble_eq_true rfl), (Nat.le_of_ble_eq_true rfl)⟩) (preV hC hS hLo (PP_r hP) (ci := 8) (q0 := 0) rfl rfl) rfl rfl hl.1 rfl (lv_room (Nat.le_of_ble_eq_true rfl)) dL_law_456 ⟨by show c0 + _ ≤ 601024; omega, by show s0 + _ ≤ 7293034; omega⟩) hP hD hS hA (fun _ => rfl) (fun r_12 u_10 H locs q_11 hP hD hS => ?_)
      have hP : PP G (lwW G a (v.1, v.1, v.2.2.1, fun _ => 0, mo, v.2.2.2.2.2.1, v.2.2.2.2.2.2.1, v.2.2.2.2.2.2.2.1 + 1, v.2.2.2.2.2.2.2.2.1 + 1, v.2.2.2.2.2.2.2.2.2 + 264) mo (fzK ki 4) pr df (iI (-1)) 264 g9 lr bf tn ln ((nx + 1) % 6) (min (ct + 1) 6) (va_up hv nx v) v0 k0 v1 k1 oa (vp_updL of 0 ((nI (264)).toInt64)) mh m1 m2 m3 m4 m5 (sdR ss (dS ss) (dS ss) (fun _ => 0) (BEST (dS ss) (tS ss)) (264) 1) (recH hi ss kn) sl tx (nxP (dS ss) (dS ss) ne 4) (nI 0) (min (kn + 1) 6) ke le sp wr si on tw dn) H := hP
      have hD : va_D (lo G) (lwW G a (v.1, v.1, v.2.2.1, fun _ => 0, mo, v.2.2.2.2.2.1, v.2.2.2.2.2.2.1, v.2.2.2.2.2.2.2.1 + 1, v.2.2.2.2.2.2.2.2.1 + 1, v.2.2.2.2.2.2.2.2.2 + 264) mo (fzK ki 4) pr df (iI (-1)) 264 g9 lr bf tn ln ((nx + 1) % 6) (min (ct + 1) 6) (va_up hv nx v) v0 k0 v1 k1 oa (vp_updL of 0 ((nI (264)).toInt64)) mh m1 m2 m3 m4 m5 (sdR ss (dS ss) (dS ss) (fun _ => 0) (BEST (dS ss) (tS ss)) (264) 1) (recH hi ss kn) sl tx (nxP (dS ss) (dS ss) ne 4) (nI 0) (min (kn + 1) 6) ke le sp wr si on tw dn) := hD
      refine topE (v' := nI (264)) (q_11.trans (heq)) ?_
      refine lv_istore (lv' := [(6, .int (nI (264))), (5, .int (nI (0))), (0, .ref bq), (1, .ref (a 0)), (2, .ref mh), (3, .ref oa), (4, .int (nI (i)))]) hx hb dL_law_459 hl (by decide) rfl (fun ls hl => ?_)
      refine lv_aload_n hx hb dL_law_461 rfl (lv_at hl 4 rfl) ?_
      refine kPi (va_runV (As := []) (rest := []) ⟨hx, hb, hml, hown, hts⟩ (c_X9_thrown mh m1 m2 m3 m4 m5 (sdR ss (dS ss) (dS ss) (fun _ => 0) (BEST (dS ss) (tS ss)) (264) 1) (recH hi ss kn) sl tx (nxP (dS ss) (dS ss) ne 4) (nI (0)) (min (kn + 1) 6) ke le sp wr si on tw dn (PP_r hP)) (cwV 0 hts gL_law_X9_thrown rfl rfl rfl (by decide +kernel) ⟨(Nat.le_of_ble_eq_true rfl), (Nat.le_of_ble_eq_true rfl)⟩) (preV hC hS hLo (PP_r hP) (ci := 8) (q0 := 0) rfl rfl) rfl rfl hl.1 rfl (lv_room (Nat.le_of_ble_eq_true rfl)) dL_law_462 ⟨by show c0 + _ ≤ 601024; omega, by show s0 + _ ≤ 7293034; omega⟩) hS (fun locs hS => ?_)
      refine lv_iload hx hb dL_law_465 (lv_at hl 1 rfl) ?_
      refine lv_icmp_eq (tgt := 472) hx hb dL_law_467 (by decide) (fun c_13 => ?_) (fun c_13 => ?_)
      · have f_14 := c_13
        refine lv_iload hx hb dL_law_472 (lv_at hl 1 rfl) ?_
        refine lv_if_ne (tgt := 489) hx hb dL_law_474 (by decide) (fun c_15 => ?_) (fun c_15 => ?_)
        · have f_16 : ¬ (0 : Int) = (0 : Int) := fun z => c_15 ((c_eq (nI_toInt (n := 0) (by omega)) rfl).mpr z)
          exfalso; omega
        · have f_17 : (0 : Int) = (0 : Int) := (c_eq (nI_toInt (n := 0) (by omega)) rfl).mp c_15
          refine lv_aload_n hx hb dL_law_477 rfl (lv_at hl 5 rfl) ?_
          refine lv_iconst (v := nI (0)) hx hb dL_law_478 (by decide) ?_
          refine gLald (j := 0) hx hb hC.K (PP_r (PP_l hP)) 0 4 rfl rfl rfl (by decide) (by decide) dL_law_479 ?_
          refine W.eq (g2 := F0 m 480 ls [.long ((nI (264)).toInt64)]) rfl ?_
          refine lv_iload hx hb dL_law_480 (lv_at hl 0 rfl) ?_
          refine lv_i2l (v := (nI (264)).toInt64) hx hb dL_law_482 (rfl) ?_
          refine W.lcmp hx hb dL_law_483 ?_
          refine topE (v' := nI (0)) (lg_self _) ?_
          refine lv_if_eq (tgt := 489) hx hb dL_law_484 (by decide) (fun c_18 => ?_) (fun c_18 => ?_)
          · have f_19 : (0 : Int) = (0 : Int) := (c_eq (nI_toInt (n := 0) (by omega)) rfl).mp c_18
            refine lv_goto (tgt := 1768) hx hb dL_law_489 (by decide) ?_
            exact hk H locs ls hP hD hS (lv_sub hl [2, 3, 4, 5, 6] rfl)
          · have f_20 : ¬ (0 : Int) = (0 : Int) := fun z => c_18 ((c_eq (nI_toInt (n := 0) (by omega)) rfl).mpr z)
            exfalso; omega
      · have f_21 := c_13
        exact absurd rfl f_21

set_option maxHeartbeats 4000000 in
set_option maxRecDepth 100000 in
theorem lw_3_x1 {pg : Program} {l : Launch} {ev : Env} {s : State} {m : MethodId} {below : List Frame} {meth : Method} {c : Code} {Q : State → Prop} {G : GT} {bq L : Nat} {xs : Nat → Int32} (hLK : LK pg l s m meth c bq L xs G) (c0 s0 : Nat) (hroom : c0 + 1 ≤ 601024 ∧ s0 + 6 ≤ 7293034) (a : Nat → Nat) (v : SVT) (mo ki : Nat → Nat) (pr df : Nat → Int) (co : Int32) (bi : Nat) (g9 : Nat → Int32) (lr : Nat) (bf : Nat → Int) (tn : Nat → Nat) (ln nx ct : Nat) (hv : Nat → SVT) (v0 : SVT) (k0 : Nat) (v1 : SVT) (k1 : Nat) (oa : Nat) (of : Nat → Int64) (mh m1 m2 m3 m4 m5 : Nat) (ss hi sl : Nat → Int) (tx : Nat → Nat) (ne : Nat → Int) (th : Int32) (kn ke le : Nat) (sp wr si on tw dn : Int32) (i : Nat) (x0 : Int32) (hi5 : i + 5 ≤ L) (hkd : 1 ≤ v.2.2.2.2.2.2.1 ∧ v.2.2.2.2.2.2.1 ≤ 20) (hpi : v.2.2.2.2.2.2.2.1 ≤ 999) (hms : ¬ v.2.2.2.2.2.2.2.1 < 999) (hMR : MR ss) (hms' : ¬ ss 194 < 999) (hz : ¬ (xs (i + 1)).toInt = 0) {H : Heap} {locs : List Loc} {ls : Array Slot} (hP : PP G (lwW G a v mo ki pr df co bi g9 lr bf tn ln nx ct hv v0 k0 v1 k1 oa of mh m1 m2 m3 m4 m5 ss hi sl tx ne th kn ke le sp wr si on tw dn) H) (hD : va_D (lo G) (lwW G a v mo ki pr df co bi g9 lr bf tn ln nx ct hv v0 k0 v1 k1 oa of mh m1 m2 m3 m4 m5 ss hi sl tx ne th kn ke le sp wr si on tw dn)) (hS : va_S (lo G) s.heap H locs) (hl : lv_has ls 7 [(0, .ref bq), (1, .ref (a 0)), (2, .ref mh), (3, .ref oa), (4, .int (nI (i)))])
    (hk : ∀ (H : Heap) (locs : List Loc) (ls : Array Slot), PP G (lwW G a v mo ki pr df co bi g9 lr bf tn ln nx ct hv v0 k0 v1 k1 oa of mh m1 m2 m3 m4 m5 ss hi sl tx ne (nI 1) kn ke le sp wr si on tw dn) H → va_D (lo G) (lwW G a v mo ki pr df co bi g9 lr bf tn ln nx ct hv v0 k0 v1 k1 oa of mh m1 m2 m3 m4 m5 ss hi sl tx ne (nI 1) kn ke le sp wr si on tw dn) → va_S (lo G) s.heap H locs → lv_has ls 7 [(0, .ref bq), (1, .ref (a 0)), (2, .ref mh), (3, .ref oa), (4, .int (nI (i)))] → W pg l ev room_1 s m #[Value.ref bq] below meth c H locs (c0 + 1) (s0 + 6) Q (F0 m 1768 ls [])) :
    W pg l ev room_1 s m #[Value.ref bq] below meth c H locs c0 s0 Q (F0 m 420 ls []) := by
  obtain ⟨hx, hb, hml, hown, hts, hX, hbl, hCX, hgB, hfl, hL9⟩ := hLK
  have hC := hCX.1
  have hLo : ∀ q, lo G q → lo G q := fun _ h => h
  have hA : ∀ q, s.heap.size ≤ q → lo G q := fun q h => by show gB G ≤ q; rw [hgB]; exact h
  have hbA : ¬ lo G bq := by show ¬ gB G ≤ bq; rw [hgB]; omega
  refine lv_aload_n hx hb dL_law_420 rfl (lv_at hl 1 rfl) ?_
  refine lv_aload_n hx hb dL_law_421 rfl (lv_at hl 0 rfl) ?_
  refine lv_iload hx hb dL_law_422 (lv_at hl 4 rfl) ?_
  refine lv_iconst (v := nI (1)) hx hb dL_law_424 (by decide) ?_
  refine gAdd (z := nI (i + 1)) hx hb dL_law_425 (nI_add _ _) ?_
  refine gScr (i := i + 1) (v := xs (i + 1)) hx hb hX hbl hbA hS (by omega) hL9 rfl dL_law_426 ?_
  refine lv_if_eq (tgt := 434) hx hb dL_law_427 (by decide) (fun c_1 => ?_) (fun c_1 => ?_)
  · have f_2 : (xs (i + 1)).toInt = 0 := by rw [c_1]; rfl
    exfalso; omega
  · have f_3 : ¬ (xs (i + 1)).toInt = 0 := fun z => c_1 (Int32.toInt_inj.mp (z.trans (by decide)))
    refine lv_iconst (v := nI (1)) hx hb dL_law_430 (by decide) ?_
    refine lv_goto (tgt := 435) hx hb dL_law_431 (by decide) ?_
    refine lv_aload_n hx hb dL_law_435 rfl (lv_at hl 3 rfl) ?_
    refine kPreI (vx_runSW (As := [.ref (a 0), .int (nI (1)), .ref oa]) (rest := []) ⟨hx, hb, hml, hown, hts⟩ (c_L_send_1 a v mo ki pr df co bi g9 lr bf tn ln nx ct hv v0 k0 v1 k1 oa of (nI (1)) (hkd) (hpi) (hms) hfl (PP_l hP) ((pre_D hD).weaken (fun _ _ _ h => hLo _ h))) (vx_cwSW 3 hts gL_law_L_send rfl rfl rfl (by decide +kernel) ⟨(Nat.le_of_ble_eq_true rfl), (Nat.le_of_ble_eq_true rfl)⟩) (preSX hCX hS hLo) rfl rfl hl.1 rfl (lv_room (Nat.le_of_ble_eq_true rfl)) dL_law_436 ⟨by show c0 + _ ≤ 601024; omega, by show s0 + _ ≤ 7293034; omega⟩) hP hD hS hA (fun _ => lw_fst) (fun r_6 u_4 H locs q_5 hP hD hS => ?_)
    have hP : PP G (lwW G a v mo ki pr df co bi g9 lr bf tn ln nx ct hv v0 k0 v1 k1 oa of mh m1 m2 m3 m4 m5 ss hi sl tx ne th kn ke le sp wr si on tw dn) H := hP
    have hD : va_D (lo G) (lwW G a v mo ki pr df co bi g9 lr bf tn ln nx ct hv v0 k0 v1 k1 oa of mh m1 m2 m3 m4 m5 ss hi sl tx ne th kn ke le sp wr si on tw dn) := hD
    refine topE (v' := nI (1)) (q_5) ?_
    refine lv_istore (lv' := [(5, .int (nI (1))), (0, .ref bq), (1, .ref (a 0)), (2, .ref mh), (3, .ref oa), (4, .int (nI (i)))]) hx hb dL_law_439 hl (by decide) rfl (fun ls hl => ?_)
    refine lv_aload_n hx hb dL_law_441 rfl (lv_at hl 3 rfl) ?_
    refine lv_aload_n hx hb dL_law_442 rfl (lv_at hl 1 rfl) ?_
    refine lv_iload hx hb dL_law_443 (lv_at hl 5 rfl) ?_
    refine lv_iconst (v := nI (1)) hx hb dL_law_445 (by decide) ?_
    refine gAdd (z := nI (i + 1)) hx hb dL_law_446 (nI_add _ _) ?_
    refine gScr (i := i + 1) (v := xs (i + 1)) hx hb hX hbl hbA hS (by omega) hL9 rfl dL_law_447 ?_
    refine lv_if_eq (tgt := 455) hx hb dL_law_448 (by decide) (fun c_7 => ?_) (fun c_7 => ?_)
    · have f_8 : (xs (i + 1)).toInt = 0 := by rw [c_7]; rfl
      exfalso; omega
    · have f_9 : ¬ (xs (i + 1)).toInt = 0 := fun z => c_7 (Int32.toInt_inj.mp (z.trans (by decide)))
      refine lv_iconst (v := nI (1)) hx hb dL_law_451 (by decide) ?_
      refine lv_goto (tgt := 456) hx hb dL_law_452 (by decide) ?_
      refine kSufI (va_runV (As := [.int (nI (1))]) (rest := []) ⟨hx, hb, hml, hown, hts⟩ (c_X9_send_1 mh m1 m2 m3 m4 m5 ss hi sl tx ne th kn ke le sp wr si on tw dn (nI (1)) (hMR) (hms') (PP_r hP) ((pre_D (va_D_swap hD)).weaken (fun _ _ _ h => hLo _ h))) (cwV 1 hts gL_law_X9_send rfl rfl rfl (by decide +kernel) ⟨(Nat.le_of_ble_eq_true rfl), (Nat.le_of_ble_eq_true rfl)⟩) (preV hC hS hLo (PP_r hP) (ci := 8) (q0 := 0) rfl rfl) rfl rfl hl.1 rfl (lv_room (Nat.le_of_ble_eq_true rfl)) dL_law_456 ⟨by show c0 + _ ≤ 601024; omega, by show s0 + _ ≤ 7293034; omega⟩) hP hD hS hA (fun _ => rfl) (fun r_12 u_10 H locs q_11 hP hD hS => ?_)
      have hP : PP G (lwW G a v mo ki pr df co bi g9 lr bf tn ln nx ct hv v0 k0 v1 k1 oa of mh m1 m2 m3 m4 m5 ss hi sl tx ne (nI 1) kn ke le sp wr si on tw dn) H := hP
      have hD : va_D (lo G) (lwW G a v mo ki pr df co bi g9 lr bf tn ln nx ct hv v0 k0 v1 k1 oa of mh m1 m2 m3 m4 m5 ss hi sl tx ne (nI 1) kn ke le sp wr si on tw dn) := hD
      refine topE (v' := nI (0)) (q_11) ?_
      refine lv_istore (lv' := [(6, .int (nI (0))), (5, .int (nI (1))), (0, .ref bq), (1, .ref (a 0)), (2, .ref mh), (3, .ref oa), (4, .int (nI (i)))]) hx hb dL_law_459 hl (by decide) rfl (fun ls hl => ?_)
      refine lv_aload_n hx hb dL_law_461 rfl (lv_at hl 4 rfl) ?_
      refine kPi (va_runV (As := []) (rest := []) ⟨hx, hb, hml, hown, hts⟩ (c_X9_thrown mh m1 m2 m3 m4 m5 ss hi sl tx ne (nI (1)) kn ke le sp wr si on tw dn (PP_r hP)) (cwV 0 hts gL_law_X9_thrown rfl rfl rfl (by decide +kernel) ⟨(Nat.le_of_ble_eq_true rfl), (Nat.le_of_ble_eq_true rfl)⟩) (preV hC hS hLo (PP_r hP) (ci := 8) (q0 := 0) rfl rfl) rfl rfl hl.1 rfl (lv_room (Nat.le_of_ble_eq_true rfl)) dL_law_462 ⟨by show c0 + _ ≤ 601024; omega, by show s0 + _ ≤ 7293034; omega⟩) hS (fun locs hS => ?_)
      refine lv_iload hx hb dL_law_465 (lv_at hl 1 rfl) ?_
      refine lv_icmp_eq (tgt := 472) hx hb dL_law_467 (by decide) (fun c_13 => ?_) (fun c_13 => ?_)
      · have f_14 := c_13
        refine lv_iload hx hb dL_law_472 (lv_at hl 1 rfl) ?_
        refine lv_if_ne (tgt := 489) hx hb dL_law_474 (by decide) (fun c_15 => ?_) (fun c_15 => ?_)
        · have f_16 : ¬ (1 : Int) = (0 : Int) := fun z => c_15 ((c_eq (nI_toInt (n := 1) (by omega)) rfl).mpr z)
          refine lv_goto (tgt := 1768) hx hb dL_law_489 (by decide) ?_
          exact hk H locs ls hP hD hS (lv_sub hl [2, 3, 4, 5, 6] rfl)
        · have f_17 : (1 : Int) = (0 : Int) := (c_eq (nI_toInt (n := 1) (by omega)) rfl).mp c_15
          exfalso; omega
      · have f_18 := c_13
        exact absurd rfl f_18

set_option maxHeartbeats 4000000 in
set_option maxRecDepth 100000 in
theorem lw_4_ok {pg : Program} {l : Launch} {ev : Env} {s : State} {m : MethodId} {below : List Frame} {meth : Method} {c : Code} {Q : State → Prop} {G : GT} {bq L : Nat} {xs : Nat → Int32} (hLK : LK pg l s m meth c bq L xs G) (c0 s0 : Nat) (hroom : c0 + 1 ≤ 601024 ∧ s0 + 6 ≤ 7293034) (a : Nat → Nat) (v : SVT) (mo ki : Nat → Nat) (pr df : Nat → Int) (co : Int32) (bi : Nat) (g9 : Nat → Int32) (lr : Nat) (bf : Nat → Int) (tn : Nat → Nat) (ln nx ct : Nat) (hv : Nat → SVT) (v0 : SVT) (k0 : Nat) (v1 : SVT) (k1 : Nat) (oa : Nat) (of : Nat → Int64) (mh m1 m2 m3 m4 m5 : Nat) (ss hi sl : Nat → Int) (tx : Nat → Nat) (ne : Nat → Int) (th : Int32) (kn ke le : Nat) (sp wr si on tw dn : Int32) (i : Nat) (q : Nat) (hi5 : i + 5 ≤ L) (ha1 : xs (i + 1) = nI (q)) (hnx : nx < 6) (hct : ct ≤ 6) (hq : 4 ≤ q ∧ q ≤ 300) (hkn : kn ≤ 6) (heq : iI (ss 192) = nI (v.2.2.2.2.2.1)) {H : Heap} {locs : List Loc} {ls : Array Slot} (hP : PP G (lwW G a v mo ki pr df co bi g9 lr bf tn ln nx ct hv v0 k0 v1 k1 oa of mh m1 m2 m3 m4 m5 ss hi sl tx ne th kn ke le sp wr si on tw dn) H) (hD : va_D (lo G) (lwW G a v mo ki pr df co bi g9 lr bf tn ln nx ct hv v0 k0 v1 k1 oa of mh m1 m2 m3 m4 m5 ss hi sl tx ne th kn ke le sp wr si on tw dn)) (hS : va_S (lo G) s.heap H locs) (hl : lv_has ls 7 [(0, .ref bq), (1, .ref (a 0)), (2, .ref mh), (3, .ref oa), (4, .int (nI (i)))])
    (hk : ∀ (H : Heap) (locs : List Loc) (ls : Array Slot), PP G (lwW G a (v.1, v.2.1, v.2.2.1, v.2.2.2.1, v.2.2.2.2.1, q, v.2.2.2.2.2.2.1, v.2.2.2.2.2.2.2.1, v.2.2.2.2.2.2.2.2.1, v.2.2.2.2.2.2.2.2.2) mo ki pr df co bi g9 lr bf tn ln ((nx + 1) % 6) (min (ct + 1) 6) (va_up hv nx v) v0 k0 v1 k1 oa (vp_updL of 0 ((nI (v.2.2.2.2.2.1)).toInt64)) mh m1 m2 m3 m4 m5 (va_up ss 192 (q : Int)) (recH hi ss kn) sl tx ne (nI 0) (min (kn + 1) 6) ke le sp wr si on tw dn) H → va_D (lo G) (lwW G a (v.1, v.2.1, v.2.2.1, v.2.2.2.1, v.2.2.2.2.1, q, v.2.2.2.2.2.2.1, v.2.2.2.2.2.2.2.1, v.2.2.2.2.2.2.2.2.1, v.2.2.2.2.2.2.2.2.2) mo ki pr df co bi g9 lr bf tn ln ((nx + 1) % 6) (min (ct + 1) 6) (va_up hv nx v) v0 k0 v1 k1 oa (vp_updL of 0 ((nI (v.2.2.2.2.2.1)).toInt64)) mh m1 m2 m3 m4 m5 (va_up ss 192 (q : Int)) (recH hi ss kn) sl tx ne (nI 0) (min (kn + 1) 6) ke le sp wr si on tw dn) → va_S (lo G) s.heap H locs → lv_has ls 7 [(0, .ref bq), (1, .ref (a 0)), (2, .ref mh), (3, .ref oa), (4, .int (nI (i)))] → W pg l ev room_1 s m #[Value.ref bq] below meth c H locs (c0 + 0) (s0 + 0) Q (F0 m 1768 ls [])) :
    W pg l ev room_1 s m #[Value.ref bq] below meth c H locs c0 s0 Q (F0 m 492 ls []) := by
  obtain ⟨hx, hb, hml, hown, hts, hX, hbl, hCX, hgB, hfl, hL9⟩ := hLK
  have hC := hCX.1
  have hLo : ∀ q, lo G q → lo G q := fun _ h => h
  have hA : ∀ q, s.heap.size ≤ q → lo G q := fun q h => by show gB G ≤ q; rw [hgB]; exact h
  have hbA : ¬ lo G bq := by show ¬ gB G ≤ bq; rw [hgB]; omega
  refine lv_aload_n hx hb dL_law_492 rfl (lv_at hl 1 rfl) ?_
  refine lv_aload_n hx hb dL_law_493 rfl (lv_at hl 0 rfl) ?_
  refine lv_iload hx hb dL_law_494 (lv_at hl 4 rfl) ?_
  refine lv_iconst (v := nI (1)) hx hb dL_law_496 (by decide) ?_
  refine gAdd (z := nI (i + 1)) hx hb dL_law_497 (nI_add _ _) ?_
  refine gScr (i := i + 1) (v := nI (q)) hx hb hX hbl hbA hS (by omega) hL9 ha1 dL_law_498 ?_
  refine lv_aload_n hx hb dL_law_499 rfl (lv_at hl 3 rfl) ?_
  refine kPreI (vx_runSW (As := [.ref (a 0), .int (nI (q)), .ref oa]) (rest := []) ⟨hx, hb, hml, hown, hts⟩ (c_L_setBudget a v mo ki pr df co bi g9 lr bf tn ln nx ct hv v0 k0 v1 k1 oa of q (hnx) (hct) (hq) (PP_l hP) ((pre_D hD).weaken (fun _ _ _ h => hLo _ h))) (vx_cwSW 3 hts gL_law_L_setBudget rfl rfl rfl (by decide +kernel) ⟨(Nat.le_of_ble_eq_true rfl), (Nat.le_of_ble_eq_true rfl)⟩) (preS hC hS hLo) rfl rfl hl.1 rfl (lv_room (Nat.le_of_ble_eq_true rfl)) dL_law_500 ⟨by show c0 + _ ≤ 601024; omega, by show s0 + _ ≤ 7293034; omega⟩) hP hD hS hA (fun _ => lw_fst) (fun r_3 u_1 H locs q_2 hP hD hS => ?_)
  have hP : PP G (lwW G a (v.1, v.2.1, v.2.2.1, v.2.2.2.1, v.2.2.2.2.1, q, v.2.2.2.2.2.2.1, v.2.2.2.2.2.2.2.1, v.2.2.2.2.2.2.2.2.1, v.2.2.2.2.2.2.2.2.2) mo ki pr df co bi g9 lr bf tn ln ((nx + 1) % 6) (min (ct + 1) 6) (va_up hv nx v) v0 k0 v1 k1 oa (vp_updL of 0 ((nI (v.2.2.2.2.2.1)).toInt64)) mh m1 m2 m3 m4 m5 ss hi sl tx ne th kn ke le sp wr si on tw dn) H := hP
  have hD : va_D (lo G) (lwW G a (v.1, v.2.1, v.2.2.1, v.2.2.2.1, v.2.2.2.2.1, q, v.2.2.2.2.2.2.1, v.2.2.2.2.2.2.2.1, v.2.2.2.2.2.2.2.2.1, v.2.2.2.2.2.2.2.2.2) mo ki pr df co bi g9 lr bf tn ln ((nx + 1) % 6) (min (ct + 1) 6) (va_up hv nx v) v0 k0 v1 k1 oa (vp_updL of 0 ((nI (v.2.2.2.2.2.1)).toInt64)) mh m1 m2 m3 m4 m5 ss hi sl tx ne th kn ke le sp wr si on tw dn) := hD
  refine topE (v' := nI (0)) (q_2) ?_
  refine lv_istore (lv' := [(5, .int (nI (0))), (0, .ref bq), (1, .ref (a 0)), (2, .ref mh), (3, .ref oa), (4, .int (nI (i)))]) hx hb dL_law_503 hl (by decide) rfl (fun ls hl => ?_)
  refine lv_aload_n hx hb dL_law_505 rfl (lv_at hl 3 rfl) ?_
  refine lv_aload_n hx hb dL_law_506 rfl (lv_at hl 1 rfl) ?_
  refine lv_iload hx hb dL_law_507 (lv_at hl 5 rfl) ?_
  refine lv_iconst (v := nI (1)) hx hb dL_law_509 (by decide) ?_
  refine gAdd (z := nI (i + 1)) hx hb dL_law_510 (nI_add _ _) ?_
  refine gScr (i := i + 1) (v := nI (q)) hx hb hX hbl hbA hS (by omega) hL9 ha1 dL_law_511 ?_
  refine kSufI (va_runV (As := [.int (nI (q))]) (rest := []) ⟨hx, hb, hml, hown, hts⟩ (c_X9_setBudget mh m1 m2 m3 m4 m5 ss hi sl tx ne th kn ke le sp wr si on tw dn q (hkn) (hq) (PP_r hP) ((pre_D (va_D_swap hD)).weaken (fun _ _ _ h => hLo _ h))) (cwV 1 hts gL_law_X9_setBudget rfl rfl rfl (by decide +kernel) ⟨(Nat.le_of_ble_eq_true rfl), (Nat.le_of_ble_eq_true rfl)⟩) (preV hC hS hLo (PP_r hP) (ci := 8) (q0 := 0) rfl rfl) rfl rfl hl.1 rfl (lv_room (Nat.le_of_ble_eq_true rfl)) dL_law_512 ⟨by show c0 + _ ≤ 601024; omega, by show s0 + _ ≤ 7293034; omega⟩) hP hD hS hA (fun _ => rfl) (fun r_6 u_4 H locs q_5 hP hD hS => ?_)
  have hP : PP G (lwW G a (v.1, v.2.1, v.2.2.1, v.2.2.2.1, v.2.2.2.2.1, q, v.2.2.2.2.2.2.1, v.2.2.2.2.2.2.2.1, v.2.2.2.2.2.2.2.2.1, v.2.2.2.2.2.2.2.2.2) mo ki pr df co bi g9 lr bf tn ln ((nx + 1) % 6) (min (ct + 1) 6) (va_up hv nx v) v0 k0 v1 k1 oa (vp_updL of 0 ((nI (v.2.2.2.2.2.1)).toInt64)) mh m1 m2 m3 m4 m5 (va_up ss 192 (q : Int)) (recH hi ss kn) sl tx ne (nI 0) (min (kn + 1) 6) ke le sp wr si on tw dn) H := hP
  have hD : va_D (lo G) (lwW G a (v.1, v.2.1, v.2.2.1, v.2.2.2.1, v.2.2.2.2.1, q, v.2.2.2.2.2.2.1, v.2.2.2.2.2.2.2.1, v.2.2.2.2.2.2.2.2.1, v.2.2.2.2.2.2.2.2.2) mo ki pr df co bi g9 lr bf tn ln ((nx + 1) % 6) (min (ct + 1) 6) (va_up hv nx v) v0 k0 v1 k1 oa (vp_updL of 0 ((nI (v.2.2.2.2.2.1)).toInt64)) mh m1 m2 m3 m4 m5 (va_up ss 192 (q : Int)) (recH hi ss kn) sl tx ne (nI 0) (min (kn + 1) 6) ke le sp wr si on tw dn) := hD
  refine topE (v' := nI (v.2.2.2.2.2.1)) (q_5.trans (heq)) ?_
  refine lv_istore (lv' := [(6, .int (nI (v.2.2.2.2.2.1))), (5, .int (nI (0))), (0, .ref bq), (1, .ref (a 0)), (2, .ref mh), (3, .ref oa), (4, .int (nI (i)))]) hx hb dL_law_515 hl (by decide) rfl (fun ls hl => ?_)
  refine lv_aload_n hx hb dL_law_517 rfl (lv_at hl 4 rfl) ?_
  refine kPi (va_runV (As := []) (rest := []) ⟨hx, hb, hml, hown, hts⟩ (c_X9_thrown mh m1 m2 m3 m4 m5 (va_up ss 192 (q : Int)) (recH hi ss kn) sl tx ne (nI (0)) (min (kn + 1) 6) ke le sp wr si on tw dn (PP_r hP)) (cwV 0 hts gL_law_X9_thrown rfl rfl rfl (by decide +kernel) ⟨(Nat.le_of_ble_eq_true rfl), (Nat.le_of_ble_eq_true rfl)⟩) (preV hC hS hLo (PP_r hP) (ci := 8) (q0 := 0) rfl rfl) rfl rfl hl.1 rfl (lv_room (Nat.le_of_ble_eq_true rfl)) dL_law_518 ⟨by show c0 + _ ≤ 601024; omega, by show s0 + _ ≤ 7293034; omega⟩) hS (fun locs hS => ?_)
  refine lv_iload hx hb dL_law_521 (lv_at hl 1 rfl) ?_
  refine lv_icmp_eq (tgt := 528) hx hb dL_law_523 (by decide) (fun c_7 => ?_) (fun c_7 => ?_)
  · have f_8 := c_7
    refine lv_iload hx hb dL_law_528 (lv_at hl 1 rfl) ?_
    refine lv_if_ne (tgt := 545) hx hb dL_law_530 (by decide) (fun c_9 => ?_) (fun c_9 => ?_)
    · have f_10 : ¬ (0 : Int) = (0 : Int) := fun z => c_9 ((c_eq (nI_toInt (n := 0) (by omega)) rfl).mpr z)
      exfalso; omega
    · have f_11 : (0 : Int) = (0 : Int) := (c_eq (nI_toInt (n := 0) (by omega)) rfl).mp c_9
      refine lv_aload_n hx hb dL_law_533 rfl (lv_at hl 5 rfl) ?_
      refine lv_iconst (v := nI (0)) hx hb dL_law_534 (by decide) ?_
      refine gLald (j := 0) hx hb hC.K (PP_r (PP_l hP)) 0 4 rfl rfl rfl (by decide) (by decide) dL_law_535 ?_
      refine W.eq (g2 := F0 m 536 ls [.long ((nI (v.2.2.2.2.2.1)).toInt64)]) rfl ?_
      refine lv_iload hx hb dL_law_536 (lv_at hl 0 rfl) ?_
      refine lv_i2l (v := (nI (v.2.2.2.2.2.1)).toInt64) hx hb dL_law_538 (rfl) ?_
      refine W.lcmp hx hb dL_law_539 ?_
      refine topE (v' := nI (0)) (lg_self _) ?_
      refine lv_if_eq (tgt := 545) hx hb dL_law_540 (by decide) (fun c_12 => ?_) (fun c_12 => ?_)
      · have f_13 : (0 : Int) = (0 : Int) := (c_eq (nI_toInt (n := 0) (by omega)) rfl).mp c_12
        refine lv_goto (tgt := 1768) hx hb dL_law_545 (by decide) ?_
        exact hk H locs ls hP hD hS (lv_sub hl [2, 3, 4, 5, 6] rfl)
      · have f_14 : ¬ (0 : Int) = (0 : Int) := fun z => c_12 ((c_eq (nI_toInt (n := 0) (by omega)) rfl).mpr z)
        exfalso; omega
  · have f_15 := c_7
    exact absurd rfl f_15

set_option maxHeartbeats 4000000 in
set_option maxRecDepth 100000 in
theorem lw_4_x1 {pg : Program} {l : Launch} {ev : Env} {s : State} {m : MethodId} {below : List Frame} {meth : Method} {c : Code} {Q : State → Prop} {G : GT} {bq L : Nat} {xs : Nat → Int32} (hLK : LK pg l s m meth c bq L xs G) (c0 s0 : Nat) (hroom : c0 + 1 ≤ 601024 ∧ s0 + 6 ≤ 7293034) (a : Nat → Nat) (v : SVT) (mo ki : Nat → Nat) (pr df : Nat → Int) (co : Int32) (bi : Nat) (g9 : Nat → Int32) (lr : Nat) (bf : Nat → Int) (tn : Nat → Nat) (ln nx ct : Nat) (hv : Nat → SVT) (v0 : SVT) (k0 : Nat) (v1 : SVT) (k1 : Nat) (oa : Nat) (of : Nat → Int64) (mh m1 m2 m3 m4 m5 : Nat) (ss hi sl : Nat → Int) (tx : Nat → Nat) (ne : Nat → Int) (th : Int32) (kn ke le : Nat) (sp wr si on tw dn : Int32) (i : Nat) (x0 : Int32) (hi5 : i + 5 ≤ L) (ha1 : xs (i + 1) = x0) (hbad : x0.toInt < 4 ∨ 300 < x0.toInt) {H : Heap} {locs : List Loc} {ls : Array Slot} (hP : PP G (lwW G a v mo ki pr df co bi g9 lr bf tn ln nx ct hv v0 k0 v1 k1 oa of mh m1 m2 m3 m4 m5 ss hi sl tx ne th kn ke le sp wr si on tw dn) H) (hD : va_D (lo G) (lwW G a v mo ki pr df co bi g9 lr bf tn ln nx ct hv v0 k0 v1 k1 oa of mh m1 m2 m3 m4 m5 ss hi sl tx ne th kn ke le sp wr si on tw dn)) (hS : va_S (lo G) s.heap H locs) (hl : lv_has ls 7 [(0, .ref bq), (1, .ref (a 0)), (2, .ref mh), (3, .ref oa), (4, .int (nI (i)))])
    (hk : ∀ (H : Heap) (locs : List Loc) (ls : Array Slot), PP G (lwW G a v mo ki pr df co bi g9 lr bf tn ln nx ct hv v0 k0 v1 k1 oa of mh m1 m2 m3 m4 m5 ss hi sl tx ne (nI 1) kn ke le sp wr si on tw dn) H → va_D (lo G) (lwW G a v mo ki pr df co bi g9 lr bf tn ln nx ct hv v0 k0 v1 k1 oa of mh m1 m2 m3 m4 m5 ss hi sl tx ne (nI 1) kn ke le sp wr si on tw dn) → va_S (lo G) s.heap H locs → lv_has ls 7 [(0, .ref bq), (1, .ref (a 0)), (2, .ref mh), (3, .ref oa), (4, .int (nI (i)))] → W pg l ev room_1 s m #[Value.ref bq] below meth c H locs (c0 + 1) (s0 + 6) Q (F0 m 1768 ls [])) :
    W pg l ev room_1 s m #[Value.ref bq] below meth c H locs c0 s0 Q (F0 m 492 ls []) := by
  obtain ⟨hx, hb, hml, hown, hts, hX, hbl, hCX, hgB, hfl, hL9⟩ := hLK
  have hC := hCX.1
  have hLo : ∀ q, lo G q → lo G q := fun _ h => h
  have hA : ∀ q, s.heap.size ≤ q → lo G q := fun q h => by show gB G ≤ q; rw [hgB]; exact h
  have hbA : ¬ lo G bq := by show ¬ gB G ≤ bq; rw [hgB]; omega
  refine lv_aload_n hx hb dL_law_492 rfl (lv_at hl 1 rfl) ?_
  refine lv_aload_n hx hb dL_law_493 rfl (lv_at hl 0 rfl) ?_
  refine lv_iload hx hb dL_law_494 (lv_at hl 4 rfl) ?_
  refine lv_iconst (v := nI (1)) hx hb dL_law_496 (by decide) ?_
  refine gAdd (z := nI (i + 1)) hx hb dL_law_497 (nI_add _ _) ?_
  refine gScr (i := i + 1) (v := x0) hx hb hX hbl hbA hS (by omega) hL9 ha1 dL_law_498 ?_
  refine lv_aload_n hx hb dL_law_499 rfl (lv_at hl 3 rfl) ?_
  refine kPreI (vx_runSW (As := [.ref (a 0), .int (x0), .ref oa]) (rest := []) ⟨hx, hb, hml, hown, hts⟩ (c_L_setBudget_1 a v mo ki pr df co bi g9 lr bf tn ln nx ct hv v0 k0 v1 k1 oa of x0 (hbad) hfl (PP_l hP) ((pre_D hD).weaken (fun _ _ _ h => hLo _ h))) (vx_cwSW 3 hts gL_law_L_setBudget rfl rfl rfl (by decide +kernel) ⟨(Nat.le_of_ble_eq_true rfl), (Nat.le_of_ble_eq_true rfl)⟩) (preSX hCX hS hLo) rfl rfl hl.1 rfl (lv_room (Nat.le_of_ble_eq_true rfl)) dL_law_500 ⟨by show c0 + _ ≤ 601024; omega, by show s0 + _ ≤ 7293034; omega⟩) hP hD hS hA (fun _ => lw_fst) (fun r_3 u_1 H locs q_2 hP hD hS => ?_)
  have hP : PP G (lwW G a v mo ki pr df co bi g9 lr bf tn ln nx ct hv v0 k0 v1 k1 oa of mh m1 m2 m3 m4 m5 ss hi sl tx ne th kn ke le sp wr si on tw dn) H := hP
  have hD : va_D (lo G) (lwW G a v mo ki pr df co bi g9 lr bf tn ln nx ct hv v0 k0 v1 k1 oa of mh m1 m2 m3 m4 m5 ss hi sl tx ne th kn ke le sp wr si on tw dn) := hD
  refine topE (v' := nI (1)) (q_2) ?_
  refine lv_istore (lv' := [(5, .int (nI (1))), (0, .ref bq), (1, .ref (a 0)), (2, .ref mh), (3, .ref oa), (4, .int (nI (i)))]) hx hb dL_law_503 hl (by decide) rfl (fun ls hl => ?_)
  refine lv_aload_n hx hb dL_law_505 rfl (lv_at hl 3 rfl) ?_
  refine lv_aload_n hx hb dL_law_506 rfl (lv_at hl 1 rfl) ?_
  refine lv_iload hx hb dL_law_507 (lv_at hl 5 rfl) ?_
  refine lv_iconst (v := nI (1)) hx hb dL_law_509 (by decide) ?_
  refine gAdd (z := nI (i + 1)) hx hb dL_law_510 (nI_add _ _) ?_
  refine gScr (i := i + 1) (v := x0) hx hb hX hbl hbA hS (by omega) hL9 ha1 dL_law_511 ?_
  refine kSufI (va_runV (As := [.int (x0)]) (rest := []) ⟨hx, hb, hml, hown, hts⟩ (c_X9_setBudget_1 mh m1 m2 m3 m4 m5 ss hi sl tx ne th kn ke le sp wr si on tw dn x0 (hbad) (PP_r hP) ((pre_D (va_D_swap hD)).weaken (fun _ _ _ h => hLo _ h))) (cwV 1 hts gL_law_X9_setBudget rfl rfl rfl (by decide +kernel) ⟨(Nat.le_of_ble_eq_true rfl), (Nat.le_of_ble_eq_true rfl)⟩) (preV hC hS hLo (PP_r hP) (ci := 8) (q0 := 0) rfl rfl) rfl rfl hl.1 rfl (lv_room (Nat.le_of_ble_eq_true rfl)) dL_law_512 ⟨by show c0 + _ ≤ 601024; omega, by show s0 + _ ≤ 7293034; omega⟩) hP hD hS hA (fun _ => rfl) (fun r_6 u_4 H locs q_5 hP hD hS => ?_)
  have hP : PP G (lwW G a v mo ki pr df co bi g9 lr bf tn ln nx ct hv v0 k0 v1 k1 oa of mh m1 m2 m3 m4 m5 ss hi sl tx ne (nI 1) kn ke le sp wr si on tw dn) H := hP
  have hD : va_D (lo G) (lwW G a v mo ki pr df co bi g9 lr bf tn ln nx ct hv v0 k0 v1 k1 oa of mh m1 m2 m3 m4 m5 ss hi sl tx ne (nI 1) kn ke le sp wr si on tw dn) := hD
  refine topE (v' := nI (0)) (q_5) ?_
  refine lv_istore (lv' := [(6, .int (nI (0))), (5, .int (nI (1))), (0, .ref bq), (1, .ref (a 0)), (2, .ref mh), (3, .ref oa), (4, .int (nI (i)))]) hx hb dL_law_515 hl (by decide) rfl (fun ls hl => ?_)
  refine lv_aload_n hx hb dL_law_517 rfl (lv_at hl 4 rfl) ?_
  refine kPi (va_runV (As := []) (rest := []) ⟨hx, hb, hml, hown, hts⟩ (c_X9_thrown mh m1 m2 m3 m4 m5 ss hi sl tx ne (nI (1)) kn ke le sp wr si on tw dn (PP_r hP)) (cwV 0 hts gL_law_X9_thrown rfl rfl rfl (by decide +kernel) ⟨(Nat.le_of_ble_eq_true rfl), (Nat.le_of_ble_eq_true rfl)⟩) (preV hC hS hLo (PP_r hP) (ci := 8) (q0 := 0) rfl rfl) rfl rfl hl.1 rfl (lv_room (Nat.le_of_ble_eq_true rfl)) dL_law_518 ⟨by show c0 + _ ≤ 601024; omega, by show s0 + _ ≤ 7293034; omega⟩) hS (fun locs hS => ?_)
  refine lv_iload hx hb dL_law_521 (lv_at hl 1 rfl) ?_
  refine lv_icmp_eq (tgt := 528) hx hb dL_law_523 (by decide) (fun c_7 => ?_) (fun c_7 => ?_)
  · have f_8 := c_7
    refine lv_iload hx hb dL_law_528 (lv_at hl 1 rfl) ?_
    refine lv_if_ne (tgt := 545) hx hb dL_law_530 (by decide) (fun c_9 => ?_) (fun c_9 => ?_)
    · have f_10 : ¬ (1 : Int) = (0 : Int) := fun z => c_9 ((c_eq (nI_toInt (n := 1) (by omega)) rfl).mpr z)
      refine lv_goto (tgt := 1768) hx hb dL_law_545 (by decide) ?_
      exact hk H locs ls hP hD hS (lv_sub hl [2, 3, 4, 5, 6] rfl)
    · have f_11 : (1 : Int) = (0 : Int) := (c_eq (nI_toInt (n := 1) (by omega)) rfl).mp c_9
      exfalso; omega
  · have f_12 := c_7
    exact absurd rfl f_12

set_option maxHeartbeats 4000000 in
set_option maxRecDepth 100000 in
theorem lw_5_ok {pg : Program} {l : Launch} {ev : Env} {s : State} {m : MethodId} {below : List Frame} {meth : Method} {c : Code} {Q : State → Prop} {G : GT} {bq L : Nat} {xs : Nat → Int32} (hLK : LK pg l s m meth c bq L xs G) (c0 s0 : Nat) (hroom : c0 + 1 ≤ 601024 ∧ s0 + 6 ≤ 7293034) (a : Nat → Nat) (v : SVT) (mo ki : Nat → Nat) (pr df : Nat → Int) (co : Int32) (bi : Nat) (g9 : Nat → Int32) (lr : Nat) (bf : Nat → Int) (tn : Nat → Nat) (ln nx ct : Nat) (hv : Nat → SVT) (v0 : SVT) (k0 : Nat) (v1 : SVT) (k1 : Nat) (oa : Nat) (of : Nat → Int64) (mh m1 m2 m3 m4 m5 : Nat) (ss hi sl : Nat → Int) (tx : Nat → Nat) (ne : Nat → Int) (th : Int32) (kn ke le : Nat) (sp wr si on tw dn : Int32) (i : Nat) (q : Nat) (hi5 : i + 5 ≤ L) (ha1 : xs (i + 1) = nI (q)) (hnx : nx < 6) (hct : ct ≤ 6) (hq : 1 ≤ q ∧ q ≤ 20) (hkn : kn ≤ 6) (heq : iI (ss 193) = nI (v.2.2.2.2.2.2.1)) {H : Heap} {locs : List Loc} {ls : Array Slot} (hP : PP G (lwW G a v mo ki pr df co bi g9 lr bf tn ln nx ct hv v0 k0 v1 k1 oa of mh m1 m2 m3 m4 m5 ss hi sl tx ne th kn ke le sp wr si on tw dn) H) (hD : va_D (lo G) (lwW G a v mo ki pr df co bi g9 lr bf tn ln nx ct hv v0 k0 v1 k1 oa of mh m1 m2 m3 m4 m5 ss hi sl tx ne th kn ke le sp wr si on tw dn)) (hS : va_S (lo G) s.heap H locs) (hl : lv_has ls 7 [(0, .ref bq), (1, .ref (a 0)), (2, .ref mh), (3, .ref oa), (4, .int (nI (i)))])
    (hk : ∀ (H : Heap) (locs : List Loc) (ls : Array Slot), PP G (lwW G a (v.1, v.2.1, v.2.2.1, v.2.2.2.1, v.2.2.2.2.1, v.2.2.2.2.2.1, q, v.2.2.2.2.2.2.2.1, v.2.2.2.2.2.2.2.2.1, v.2.2.2.2.2.2.2.2.2) mo ki pr df co bi g9 lr bf tn ln ((nx + 1) % 6) (min (ct + 1) 6) (va_up hv nx v) v0 k0 v1 k1 oa (vp_updL of 0 ((nI (v.2.2.2.2.2.2.1)).toInt64)) mh m1 m2 m3 m4 m5 (va_up ss 193 (q : Int)) (recH hi ss kn) sl tx ne (nI 0) (min (kn + 1) 6) ke le sp wr si on tw dn) H → va_D (lo G) (lwW G a (v.1, v.2.1, v.2.2.1, v.2.2.2.1, v.2.2.2.2.1, v.2.2.2.2.2.1, q, v.2.2.2.2.2.2.2.1, v.2.2.2.2.2.2.2.2.1, v.2.2.2.2.2.2.2.2.2) mo ki pr df co bi g9 lr bf tn ln ((nx + 1) % 6) (min (ct + 1) 6) (va_up hv nx v) v0 k0 v1 k1 oa (vp_updL of 0 ((nI (v.2.2.2.2.2.2.1)).toInt64)) mh m1 m2 m3 m4 m5 (va_up ss 193 (q : Int)) (recH hi ss kn) sl tx ne (nI 0) (min (kn + 1) 6) ke le sp wr si on tw dn) → va_S (lo G) s.heap H locs → lv_has ls 7 [(0, .ref bq), (1, .ref (a 0)), (2, .ref mh), (3, .ref oa), (4, .int (nI (i)))] → W pg l ev room_1 s m #[Value.ref bq] below meth c H locs (c0 + 0) (s0 + 0) Q (F0 m 1768 ls [])) :
    W pg l ev room_1 s m #[Value.ref bq] below meth c H locs c0 s0 Q (F0 m 548 ls []) := by
  obtain ⟨hx, hb, hml, hown, hts, hX, hbl, hCX, hgB, hfl, hL9⟩ := hLK
  have hC := hCX.1
  have hLo : ∀ q, lo G q → lo G q := fun _ h => h
  have hA : ∀ q, s.heap.size ≤ q → lo G q := fun q h => by show gB G ≤ q; rw [hgB]; exact h
  have hbA : ¬ lo G bq := by show ¬ gB G ≤ bq; rw [hgB]; omega
  refine lv_aload_n hx hb dL_law_548 rfl (lv_at hl 1 rfl) ?_
  refine lv_aload_n hx hb dL_law_549 rfl (lv_at hl 0 rfl) ?_
  refine lv_iload hx hb dL_law_550 (lv_at hl 4 rfl) ?_
  refine lv_iconst (v := nI (1)) hx hb dL_law_552 (by decide) ?_
  refine gAdd (z := nI (i + 1)) hx hb dL_law_553 (nI_add _ _) ?_
  refine gScr (i := i + 1) (v := nI (q)) hx hb hX hbl hbA hS (by omega) hL9 ha1 dL_law_554 ?_
  refine lv_aload_n hx hb dL_law_555 rfl (lv_at hl 3 rfl) ?_
  refine kPreI (vx_runSW (As := [.ref (a 0), .int (nI (q)), .ref oa]) (rest := []) ⟨hx, hb, hml, hown, hts⟩ (c_L_setKeyDistance a v mo ki pr df co bi g9 lr bf tn ln nx ct hv v0 k0 v1 k1 oa of q (hnx) (hct) (hq) (PP_l hP) ((pre_D hD).weaken (fun _ _ _ h => hLo _ h))) (vx_cwSW 3 hts gL_law_L_setKeyDistance rfl rfl rfl (by decide +kernel) ⟨(Nat.le_of_ble_eq_true rfl), (Nat.le_of_ble_eq_true rfl)⟩) (preS hC hS hLo) rfl rfl hl.1 rfl (lv_room (Nat.le_of_ble_eq_true rfl)) dL_law_556 ⟨by show c0 + _ ≤ 601024; omega, by show s0 + _ ≤ 7293034; omega⟩) hP hD hS hA (fun _ => lw_fst) (fun r_3 u_1 H locs q_2 hP hD hS => ?_)
  have hP : PP G (lwW G a (v.1, v.2.1, v.2.2.1, v.2.2.2.1, v.2.2.2.2.1, v.2.2.2.2.2.1, q, v.2.2.2.2.2.2.2.1, v.2.2.2.2.2.2.2.2.1, v.2.2.2.2.2.2.2.2.2) mo ki pr df co bi g9 lr bf tn ln ((nx + 1) % 6) (min (ct + 1) 6) (va_up hv nx v) v0 k0 v1 k1 oa (vp_updL of 0 ((nI (v.2.2.2.2.2.2.1)).toInt64)) mh m1 m2 m3 m4 m5 ss hi sl tx ne th kn ke le sp wr si on tw dn) H := hP
  have hD : va_D (lo G) (lwW G a (v.1, v.2.1, v.2.2.1, v.2.2.2.1, v.2.2.2.2.1, v.2.2.2.2.2.1, q, v.2.2.2.2.2.2.2.1, v.2.2.2.2.2.2.2.2.1, v.2.2.2.2.2.2.2.2.2) mo ki pr df co bi g9 lr bf tn ln ((nx + 1) % 6) (min (ct + 1) 6) (va_up hv nx v) v0 k0 v1 k1 oa (vp_updL of 0 ((nI (v.2.2.2.2.2.2.1)).toInt64)) mh m1 m2 m3 m4 m5 ss hi sl tx ne th kn ke le sp wr si on tw dn) := hD
  refine topE (v' := nI (0)) (q_2) ?_
  refine lv_istore (lv' := [(5, .int (nI (0))), (0, .ref bq), (1, .ref (a 0)), (2, .ref mh), (3, .ref oa), (4, .int (nI (i)))]) hx hb dL_law_559 hl (by decide) rfl (fun ls hl => ?_)
  refine lv_aload_n hx hb dL_law_561 rfl (lv_at hl 3 rfl) ?_
  refine lv_aload_n hx hb dL_law_562 rfl (lv_at hl 1 rfl) ?_
  refine lv_iload hx hb dL_law_563 (lv_at hl 5 rfl) ?_
  refine lv_iconst (v := nI (1)) hx hb dL_law_565 (by decide) ?_
  refine gAdd (z := nI (i + 1)) hx hb dL_law_566 (nI_add _ _) ?_
  refine gScr (i := i + 1) (v := nI (q)) hx hb hX hbl hbA hS (by omega) hL9 ha1 dL_law_567 ?_
  refine kSufI (va_runV (As := [.int (nI (q))]) (rest := []) ⟨hx, hb, hml, hown, hts⟩ (c_X9_setKeyDistance mh m1 m2 m3 m4 m5 ss hi sl tx ne th kn ke le sp wr si on tw dn q (hkn) (hq) (PP_r hP) ((pre_D (va_D_swap hD)).weaken (fun _ _ _ h => hLo _ h))) (cwV 1 hts gL_law_X9_setKeyDistance rfl rfl rfl (by decide +kernel) ⟨(Nat.le_of_ble_eq_true rfl), (Nat.le_of_ble_eq_true rfl)⟩) (preV hC hS hLo (PP_r hP) (ci := 8) (q0 := 0) rfl rfl) rfl rfl hl.1 rfl (lv_room (Nat.le_of_ble_eq_true rfl)) dL_law_568 ⟨by show c0 + _ ≤ 601024; omega, by show s0 + _ ≤ 7293034; omega⟩) hP hD hS hA (fun _ => rfl) (fun r_6 u_4 H locs q_5 hP hD hS => ?_)
  have hP : PP G (lwW G a (v.1, v.2.1, v.2.2.1, v.2.2.2.1, v.2.2.2.2.1, v.2.2.2.2.2.1, q, v.2.2.2.2.2.2.2.1, v.2.2.2.2.2.2.2.2.1, v.2.2.2.2.2.2.2.2.2) mo ki pr df co bi g9 lr bf tn ln ((nx + 1) % 6) (min (ct + 1) 6) (va_up hv nx v) v0 k0 v1 k1 oa (vp_updL of 0 ((nI (v.2.2.2.2.2.2.1)).toInt64)) mh m1 m2 m3 m4 m5 (va_up ss 193 (q : Int)) (recH hi ss kn) sl tx ne (nI 0) (min (kn + 1) 6) ke le sp wr si on tw dn) H := hP
  have hD : va_D (lo G) (lwW G a (v.1, v.2.1, v.2.2.1, v.2.2.2.1, v.2.2.2.2.1, v.2.2.2.2.2.1, q, v.2.2.2.2.2.2.2.1, v.2.2.2.2.2.2.2.2.1, v.2.2.2.2.2.2.2.2.2) mo ki pr df co bi g9 lr bf tn ln ((nx + 1) % 6) (min (ct + 1) 6) (va_up hv nx v) v0 k0 v1 k1 oa (vp_updL of 0 ((nI (v.2.2.2.2.2.2.1)).toInt64)) mh m1 m2 m3 m4 m5 (va_up ss 193 (q : Int)) (recH hi ss kn) sl tx ne (nI 0) (min (kn + 1) 6) ke le sp wr si on tw dn) := hD
  refine topE (v' := nI (v.2.2.2.2.2.2.1)) (q_5.trans (heq)) ?_
  refine lv_istore (lv' := [(6, .int (nI (v.2.2.2.2.2.2.1))), (5, .int (nI (0))), (0, .ref bq), (1, .ref (a 0)), (2, .ref mh), (3, .ref oa), (4, .int (nI (i)))]) hx hb dL_law_571 hl (by decide) rfl (fun ls hl => ?_)
  refine lv_aload_n hx hb dL_law_573 rfl (lv_at hl 4 rfl) ?_
  refine kPi (va_runV (As := []) (rest := []) ⟨hx, hb, hml, hown, hts⟩ (c_X9_thrown mh m1 m2 m3 m4 m5 (va_up ss 193 (q : Int)) (recH hi ss kn) sl tx ne (nI (0)) (min (kn + 1) 6) ke le sp wr si on tw dn (PP_r hP)) (cwV 0 hts gL_law_X9_thrown rfl rfl rfl (by decide +kernel) ⟨(Nat.le_of_ble_eq_true rfl), (Nat.le_of_ble_eq_true rfl)⟩) (preV hC hS hLo (PP_r hP) (ci := 8) (q0 := 0) rfl rfl) rfl rfl hl.1 rfl (lv_room (Nat.le_of_ble_eq_true rfl)) dL_law_574 ⟨by show c0 + _ ≤ 601024; omega, by show s0 + _ ≤ 7293034; omega⟩) hS (fun locs hS => ?_)
  refine lv_iload hx hb dL_law_577 (lv_at hl 1 rfl) ?_
  refine lv_icmp_eq (tgt := 584) hx hb dL_law_579 (by decide) (fun c_7 => ?_) (fun c_7 => ?_)
  · have f_8 := c_7
    refine lv_iload hx hb dL_law_584 (lv_at hl 1 rfl) ?_
    refine lv_if_ne (tgt := 601) hx hb dL_law_586 (by decide) (fun c_9 => ?_) (fun c_9 => ?_)
    · have f_10 : ¬ (0 : Int) = (0 : Int) := fun z => c_9 ((c_eq (nI_toInt (n := 0) (by omega)) rfl).mpr z)
      exfalso; omega
    · have f_11 : (0 : Int) = (0 : Int) := (c_eq (nI_toInt (n := 0) (by omega)) rfl).mp c_9
      refine lv_aload_n hx hb dL_law_589 rfl (lv_at hl 5 rfl) ?_
      refine lv_iconst (v := nI (0)) hx hb dL_law_590 (by decide) ?_
      refine gLald (j := 0) hx hb hC.K (PP_r (PP_l hP)) 0 4 rfl rfl rfl (by decide) (by decide) dL_law_591 ?_
      refine W.eq (g2 := F0 m 592 ls [.long ((nI (v.2.2.2.2.2.2.1)).toInt64)]) rfl ?_
      refine lv_iload hx hb dL_law_592 (lv_at hl 0 rfl) ?_
      refine lv_i2l (v := (nI (v.2.2.2.2.2.2.1)).toInt64) hx hb dL_law_594 (rfl) ?_
      refine W.lcmp hx hb dL_law_595 ?_
      refine topE (v' := nI (0)) (lg_self _) ?_
      refine lv_if_eq (tgt := 601) hx hb dL_law_596 (by decide) (fun c_12 => ?_) (fun c_12 => ?_)
      · have f_13 : (0 : Int) = (0 : Int) := (c_eq (nI_toInt (n := 0) (by omega)) rfl).mp c_12
        refine lv_goto (tgt := 1768) hx hb dL_law_601 (by decide) ?_
        exact hk H locs ls hP hD hS (lv_sub hl [2, 3, 4, 5, 6] rfl)
      · have f_14 : ¬ (0 : Int) = (0 : Int) := fun z => c_12 ((c_eq (nI_toInt (n := 0) (by omega)) rfl).mpr z)
        exfalso; omega
  · have f_15 := c_7
    exact absurd rfl f_15
