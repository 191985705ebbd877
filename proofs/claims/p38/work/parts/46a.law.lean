theorem o3_fst {G : GT} {a b : Nat → Nat} {v v' w w' : SVT} {j j' k k' : JT} {R9 : va_W} : (oW G a v j ++ (oW G b w k ++ R9)).map Prod.fst = (oW G a v' j' ++ (oW G b w' k' ++ R9)).map Prod.fst := by
  simp only [List.map_append]
  rw [oW_fst (v := v) (v' := v') (j := j) (j' := j'), oW_fst (v := w) (v' := w') (j := k) (j' := k')]
set_option maxHeartbeats 4000000 in
set_option maxRecDepth 100000 in
theorem sg_e {pg : Program} {l : Launch} {ev : Env} {s : State} {m : MethodId} {below : List Frame} {meth : Method} {c : Code} {Q : State → Prop} {G : GT} {bq L : Nat} {xs : Nat → Int32} (hLK : LK pg l s m meth c bq L xs G) (c0 s0 : Nat) (hroom : c0 + 0 ≤ 600104 ∧ s0 + 0 ≤ 7301314) {a b : Nat → Nat} {oa : Nat} {vo vp : SVT} {jo jp : JT} {of : Nat → Int32} (e : Nat) (he : e < 52) (hv : OKS vo) (hpc : PIC vo) (hw : OKS vp) (hs : SIM vo vp) (hpi : sPi vo ≤ e + 1) (hjo : OKJ jo) (hjp : OKJ jp) (H : Heap) (locs : List Loc) (ls : Array Slot) (hP : PP G (oW G a vo jo ++ (oW G b vp jp ++ ouW G oa of)) H) (hD : va_D (lo G) (oW G a vo jo ++ (oW G b vp jp ++ ouW G oa of))) (hS : va_S (lo G) s.heap H locs) (hl : lv_has ls 10 [(0, .ref bq), (1, .ref (a 0)), (2, .ref (b 0)), (3, .ref oa), (4, .int (nI (e)))]) (hk : ∀ (jo' jp' : JT), OKJ jo' → OKJ jp' → ∀ (H : Heap) (locs : List Loc) (ls : Array Slot), PP G (oW G a vo jo' ++ (oW G b vp jp' ++ ouW G oa of)) H → va_D (lo G) (oW G a vo jo' ++ (oW G b vp jp' ++ ouW G oa of)) → va_S (lo G) s.heap H locs → lv_has ls 10 [(0, .ref bq), (1, .ref (a 0)), (2, .ref (b 0)), (3, .ref oa), (4, .int (nI (e)))] → W pg l ev room_1 s m #[Value.ref bq] below meth c H locs (c0 + 0) (s0 + 0) Q (F0 m 256 ls [])) :
    W pg l ev room_1 s m #[Value.ref bq] below meth c H locs c0 s0 Q (F0 m 246 ls []) := by
  obtain ⟨hx, hb, hml, hown, hts, hX, hbl, hCX, hgB, hfl, hL9⟩ := hLK
  have hC := hCX.1
  have hLo : ∀ q, lo G q → lo G q := fun _ h => h
  have hA : ∀ q, s.heap.size ≤ q → lo G q := fun q h => by show gB G ≤ q; rw [hgB]; exact h
  have hbA : ¬ lo G bq := by show ¬ gB G ≤ bq; rw [hgB]; omega
  refine lv_aload_n hx hb dL_law_246 rfl (lv_at hl 1 rfl) ?_
  refine lv_aload_n hx hb dL_law_247 rfl (lv_at hl 2 rfl) ?_
  refine kWi (va_runS (As := [.ref (a 0), .ref (b 0)]) (rest := []) ⟨hx, hb, hml, hown, hts⟩ (c_L_areAlike a b vo vp jo jp (ouW G oa of) hv hw hs (by omega) hjo hjp hP (hD.weaken (fun _ _ _ h => hLo _ h))) (va_cwS 2 hts gL_law_L_areAlike rfl rfl rfl (by decide +kernel) ⟨(Nat.le_of_ble_eq_true rfl), (Nat.le_of_ble_eq_true rfl)⟩) (preS hC hS hLo) rfl rfl hl.1 rfl (lv_room (Nat.le_of_ble_eq_true rfl)) dL_law_248 ⟨by show _ ≤ 600104; omega, by show _ ≤ 7301314; omega⟩) hP hD hS hA (fun _ => o3_fst) (fun r_1 u_2 H locs q_3 hP hD hS => ?_)
  have hP : PP G (oW G a vo u_2.1 ++ (oW G b vp u_2.2 ++ ouW G oa of)) H := hP
  have hD : va_D (lo G) (oW G a vo u_2.1 ++ (oW G b vp u_2.2 ++ ouW G oa of)) := hD
  refine topE (v' := nI 1) q_3.1 ?_
  refine lv_if_ne (tgt := 256) hx hb dL_law_251 (by decide) (fun c_4 => ?_) (fun c_4 => ?_)
  · have f_5 : ¬ (1 : Int) = (0 : Int) := fun z => c_4 ((c_eq (nI_toInt (n := 1) (by omega)) rfl).mpr z)
    refine W.widen (k := c0 + 0) (n := s0 + 0) (by omega) (by omega) ?_
    exact hk u_2.1 u_2.2 q_3.2.1 q_3.2.2.2.1 H locs ls hP hD hS (lv_sub hl [0, 1, 2, 3, 4] rfl)
  · have f_6 : (1 : Int) = (0 : Int) := (c_eq (nI_toInt (n := 1) (by omega)) rfl).mp c_4
    exfalso; omega

set_option maxHeartbeats 4000000 in
set_option maxRecDepth 100000 in
theorem sg_c {pg : Program} {l : Launch} {ev : Env} {s : State} {m : MethodId} {below : List Frame} {meth : Method} {c : Code} {Q : State → Prop} {G : GT} {bq L : Nat} {xs : Nat → Int32} (hLK : LK pg l s m meth c bq L xs G) (c0 s0 : Nat) (hroom : c0 + 0 ≤ 600104 ∧ s0 + 0 ≤ 7301314) {a b : Nat → Nat} {oa : Nat} {vo vp : SVT} {jo jp : JT} {of : Nat → Int32} (e : Nat) (he : e < 52) (x0 : Int32) (hv : OKS vo) (hpc : PIC vo) (hw : OKS vp) (hs : SIM vo vp) (hpi : sPi vo ≤ e + 1) (hjo : OKJ jo) (hjp : OKJ jp) (H : Heap) (locs : List Loc) (ls : Array Slot) (hP : PP G (oW G a vo jo ++ (oW G b vp jp ++ ouW G oa of)) H) (hD : va_D (lo G) (oW G a vo jo ++ (oW G b vp jp ++ ouW G oa of))) (hS : va_S (lo G) s.heap H locs) (hl : lv_has ls 10 [(0, .ref bq), (1, .ref (a 0)), (2, .ref (b 0)), (3, .ref oa), (4, .int (nI (e))), (5, .int (x0))]) (hk : ∀ (jo' : JT), OKJ jo' → ∀ (H : Heap) (locs : List Loc) (ls : Array Slot), PP G (oW G a vo jo' ++ (oW G b vp jp ++ ouW G oa of)) H → va_D (lo G) (oW G a vo jo' ++ (oW G b vp jp ++ ouW G oa of)) → va_S (lo G) s.heap H locs → lv_has ls 10 [(0, .ref bq), (1, .ref (a 0)), (2, .ref (b 0)), (3, .ref oa), (4, .int (nI (e))), (5, .int (x0))] → W pg l ev room_1 s m #[Value.ref bq] below meth c H locs (c0 + 0) (s0 + 0) Q (F0 m 215 ls [])) :
    W pg l ev room_1 s m #[Value.ref bq] below meth c H locs c0 s0 Q (F0 m 191 ls []) := by
  obtain ⟨hx, hb, hml, hown, hts, hX, hbl, hCX, hgB, hfl, hL9⟩ := hLK
  have hC := hCX.1
  have hLo : ∀ q, lo G q → lo G q := fun _ h => h
  have hA : ∀ q, s.heap.size ≤ q → lo G q := fun q h => by show gB G ≤ q; rw [hgB]; exact h
  have hbA : ¬ lo G bq := by show ¬ gB G ≤ bq; rw [hgB]; omega
  refine lv_iload hx hb dL_law_191 (lv_at hl 4 rfl) ?_
  refine lv_iconst (v := nI (3)) hx hb dL_law_193 (by decide) ?_
  refine gRem (z := nI (e % 3)) hx hb dL_law_194 (nI_ne0 (by omega) (by omega)) (pk_rem (by omega) (by omega) (by omega)) ?_
  refine lv_iconst (v := nI (2)) hx hb dL_law_195 (by decide) ?_
  refine lv_icmp_ne (tgt := 215) hx hb dL_law_196 (by decide) (fun c_1 => ?_) (fun c_1 => ?_)
  · have f_2 : ¬ ((e % 3 : Nat) : Int) = (2 : Int) := fun z => c_1 ((c_eq (nI_toInt (n := e % 3) (by omega)) (nI_toInt (n := 2) (by omega))).mpr z)
    refine W.widen (k := c0 + 0) (n := s0 + 0) (by omega) (by omega) ?_
    exact hk jo hjo H locs ls hP hD hS (lv_sub hl [0, 1, 2, 3, 4, 5] rfl)
  · have f_3 : ((e % 3 : Nat) : Int) = (2 : Int) := (c_eq (nI_toInt (n := e % 3) (by omega)) (nI_toInt (n := 2) (by omega))).mp c_1
    refine lv_aload_n hx hb dL_law_199 rfl (lv_at hl 1 rfl) ?_
    refine lv_iload hx hb dL_law_200 (lv_at hl 5 rfl) ?_
    refine lv_bipush (v := nI (7)) hx hb dL_law_202 (by decide) ?_
    refine g_ishr (z := x0 >>> ((nI (7)) &&& 31)) hx hb dL_law_204 (rfl) ?_
    refine lv_iconst (v := nI (4)) hx hb dL_law_205 (by decide) ?_
    refine kPi (va_runS (As := [.int (x0 >>> ((nI (7)) &&& 31)), .int (nI (4))]) (rest := [.ref (a 0)]) ⟨hx, hb, hml, hown, hts⟩ (c_L_low (x0 >>> ((nI (7)) &&& 31)) 4 (by omega)) (va_cwS 2 hts gL_law_L_low rfl rfl rfl (by decide +kernel) ⟨(Nat.le_of_ble_eq_true rfl), (Nat.le_of_ble_eq_true rfl)⟩) (preS hC hS hLo) rfl rfl hl.1 rfl (lv_room (Nat.le_of_ble_eq_true rfl)) dL_law_206 ⟨by show _ ≤ 600104; omega, by show _ ≤ 7301314; omega⟩) hS (fun locs hS => ?_)
    obtain ⟨bk, hbk4, ebk⟩ := low_4 (x0 >>> ((nI (7)) &&& 31))
    refine topE (v' := nI bk) ebk ?_
    refine kPreI (va_runS (As := [.ref (a 0), .int (nI (bk))]) (rest := []) ⟨hx, hb, hml, hown, hts⟩ (c_L_areMovesSo a vo jo bk hv hjo hbk4 (PP_l hP) ((pre_D hD).weaken (fun _ _ _ h => hLo _ h))) (va_cwS 2 hts gL_law_L_areMovesSo rfl rfl rfl (by decide +kernel) ⟨(Nat.le_of_ble_eq_true rfl), (Nat.le_of_ble_eq_true rfl)⟩) (preS hC hS hLo) rfl rfl hl.1 rfl (lv_room (Nat.le_of_ble_eq_true rfl)) dL_law_209 ⟨by show _ ≤ 600104; omega, by show _ ≤ 7301314; omega⟩) hP hD hS hA (fun _ => oW_fst) (fun r_4 u_5 H locs q_6 hP hD hS => ?_)
    have hP : PP G (oW G a vo u_5 ++ (oW G b vp jp ++ ouW G oa of)) H := hP
    have hD : va_D (lo G) (oW G a vo u_5 ++ (oW G b vp jp ++ ouW G oa of)) := hD
    refine topE (v' := nI 1) q_6.1 ?_
    refine lv_if_eq (tgt := 254) hx hb dL_law_212 (by decide) (fun c_7 => ?_) (fun c_7 => ?_)
    · have f_8 : (1 : Int) = (0 : Int) := (c_eq (nI_toInt (n := 1) (by omega)) rfl).mp c_7
      exfalso; omega
    · have f_9 : ¬ (1 : Int) = (0 : Int) := fun z => c_7 ((c_eq (nI_toInt (n := 1) (by omega)) rfl).mpr z)
      refine W.widen (k := c0 + 0) (n := s0 + 0) (by omega) (by omega) ?_
      exact hk u_5 q_6.2.1 H locs ls hP hD hS (lv_sub hl [0, 1, 2, 3, 4, 5] rfl)

set_option maxHeartbeats 4000000 in
set_option maxRecDepth 100000 in
theorem sg_d {pg : Program} {l : Launch} {ev : Env} {s : State} {m : MethodId} {below : List Frame} {meth : Method} {c : Code} {Q : State → Prop} {G : GT} {bq L : Nat} {xs : Nat → Int32} (hLK : LK pg l s m meth c bq L xs G) (c0 s0 : Nat) (hroom : c0 + 1 ≤ 600104 ∧ s0 + 6 ≤ 7301314) {a b : Nat → Nat} {oa : Nat} {vo vp : SVT} {jo jp : JT} {of : Nat → Int32} (e : Nat) (he : e < 52) (x0 : Int32) (hv : OKS vo) (hpc : PIC vo) (hw : OKS vp) (hs : SIM vo vp) (hpi : sPi vo ≤ e + 1) (hjo : OKJ jo) (hjp : OKJ jp) (H : Heap) (locs : List Loc) (ls : Array Slot) (hP : PP G (oW G a vo jo ++ (oW G b vp jp ++ ouW G oa of)) H) (hD : va_D (lo G) (oW G a vo jo ++ (oW G b vp jp ++ ouW G oa of))) (hS : va_S (lo G) s.heap H locs) (hl : lv_has ls 10 [(0, .ref bq), (1, .ref (a 0)), (2, .ref (b 0)), (3, .ref oa), (4, .int (nI (e))), (5, .int (x0))]) (hk : ∀ (jo' : JT) (of' : Nat → Int32), OKJ jo' → ∀ (H : Heap) (locs : List Loc) (ls : Array Slot), PP G (oW G a vo jo' ++ (oW G b vp jp ++ ouW G oa of')) H → va_D (lo G) (oW G a vo jo' ++ (oW G b vp jp ++ ouW G oa of')) → va_S (lo G) s.heap H locs → lv_has ls 10 [(0, .ref bq), (1, .ref (a 0)), (2, .ref (b 0)), (3, .ref oa), (4, .int (nI (e)))] → W pg l ev room_1 s m #[Value.ref bq] below meth c H locs (c0 + 1) (s0 + 6) Q (F0 m 246 ls [])) :
    W pg l ev room_1 s m #[Value.ref bq] below meth c H locs c0 s0 Q (F0 m 215 ls []) := by
  obtain ⟨hx, hb, hml, hown, hts, hX, hbl, hCX, hgB, hfl, hL9⟩ := hLK
  have hC := hCX.1
  have hLo : ∀ q, lo G q → lo G q := fun _ h => h
  have hA : ∀ q, s.heap.size ≤ q → lo G q := fun q h => by show gB G ≤ q; rw [hgB]; exact h
  have hbA : ¬ lo G bq := by show ¬ gB G ≤ bq; rw [hgB]; omega
  refine lv_iload hx hb dL_law_215 (lv_at hl 4 rfl) ?_
  refine lv_iconst (v := nI (2)) hx hb dL_law_217 (by decide) ?_
  refine gRem (z := nI (e % 2)) hx hb dL_law_218 (nI_ne0 (by omega) (by omega)) (pk_rem (by omega) (by omega) (by omega)) ?_
  refine lv_iconst (v := nI (1)) hx hb dL_law_219 (by decide) ?_
  refine lv_icmp_ne (tgt := 246) hx hb dL_law_220 (by decide) (fun c_1 => ?_) (fun c_1 => ?_)
  · have f_2 : ¬ ((e % 2 : Nat) : Int) = (1 : Int) := fun z => c_1 ((c_eq (nI_toInt (n := e % 2) (by omega)) (nI_toInt (n := 1) (by omega))).mpr z)
    refine W.widen (k := c0 + 1) (n := s0 + 6) (by omega) (by omega) ?_
    exact hk jo of hjo H locs ls hP hD hS (lv_sub hl [0, 1, 2, 3, 4] rfl)
  · have f_3 : ((e % 2 : Nat) : Int) = (1 : Int) := (c_eq (nI_toInt (n := e % 2) (by omega)) (nI_toInt (n := 1) (by omega))).mp c_1
    refine lv_aload_n hx hb dL_law_223 rfl (lv_at hl 1 rfl) ?_
    refine lv_iload hx hb dL_law_224 (lv_at hl 5 rfl) ?_
    refine lv_bipush (v := nI (8)) hx hb dL_law_226 (by decide) ?_
    refine g_ishr (z := x0 >>> ((nI (8)) &&& 31)) hx hb dL_law_228 (rfl) ?_
    refine lv_iconst (v := nI (1)) hx hb dL_law_229 (by decide) ?_
    refine g_iand (z := (x0 >>> ((nI (8)) &&& 31)) &&& (nI (1))) hx hb dL_law_230 (rfl) ?_
    refine lv_if_ne (tgt := 238) hx hb dL_law_231 (by decide) (fun c_4 => ?_) (fun c_4 => ?_)
    · have f_5 : ¬ ((x0 >>> ((nI (8)) &&& 31)) &&& (nI (1)) : Int32) = 0 := c_4
      refine lv_iconst (v := nI (0)) hx hb dL_law_238 (by decide) ?_
      refine lv_aload_n hx hb dL_law_239 rfl (lv_at hl 3 rfl) ?_
      have hP : PP G (([]) ++ (oW G a vo jo ++ ((oW G b vp jp) ++ (ouW G oa of ++ [])))) H := hP
      have hD : va_D (lo G) (([]) ++ (oW G a vo jo ++ ((oW G b vp jp) ++ (ouW G oa of ++ [])))) := hD
      refine k2I (b1 := fun (u9 : JT × (Nat → Int32)) => oW G a vo u9.1) (b2 := fun (u9 : JT × (Nat → Int32)) => ouW G oa u9.2) (va_runS (As := [.ref (a 0), .int (nI (0)), .ref oa]) (rest := []) ⟨hx, hb, hml, hown, hts⟩ (c_L_isNextSo a vo jo oa of 0 (by omega) hv hpc (by omega) hjo hfl (f2_P hP) ((f2_D hD).weaken (fun _ _ _ h => hLo _ h))) (va_cwS 3 hts gL_law_L_isNextSo rfl rfl rfl (by decide +kernel) ⟨(Nat.le_of_ble_eq_true rfl), (Nat.le_of_ble_eq_true rfl)⟩) (preSX hCX hS hLo) rfl rfl hl.1 rfl (lv_room (Nat.le_of_ble_eq_true rfl)) dL_law_240 ⟨by show _ ≤ 600104; omega, by show _ ≤ 7301314; omega⟩) hP hD hS hA (fun _ => oW_fst) (fun _ => rfl) (fun r_6 u_7 H locs q_8 hP hD hS => ?_)
      have hP : PP G (oW G a vo u_7.1 ++ (oW G b vp jp ++ ouW G oa u_7.2)) H := hP
      have hD : va_D (lo G) (oW G a vo u_7.1 ++ (oW G b vp jp ++ ouW G oa u_7.2)) := hD
      refine topE (v' := nI 1) q_8.1 ?_
      refine lv_if_eq (tgt := 254) hx hb dL_law_243 (by decide) (fun c_9 => ?_) (fun c_9 => ?_)
      · have f_10 : (1 : Int) = (0 : Int) := (c_eq (nI_toInt (n := 1) (by omega)) rfl).mp c_9
        exfalso; omega
      · have f_11 : ¬ (1 : Int) = (0 : Int) := fun z => c_9 ((c_eq (nI_toInt (n := 1) (by omega)) rfl).mpr z)
        refine W.widen (k := c0 + 1) (n := s0 + 6) (by omega) (by omega) ?_
        exact hk u_7.1 u_7.2 q_8.2.1 H locs ls hP hD hS (lv_sub hl [0, 1, 2, 3, 4] rfl)
    · have f_12 : ((x0 >>> ((nI (8)) &&& 31)) &&& (nI (1)) : Int32) = 0 := c_4
      refine lv_iconst (v := nI (1)) hx hb dL_law_234 (by decide) ?_
      refine lv_goto (tgt := 239) hx hb dL_law_235 (by decide) ?_
      refine lv_aload_n hx hb dL_law_239 rfl (lv_at hl 3 rfl) ?_
      have hP : PP G (([]) ++ (oW G a vo jo ++ ((oW G b vp jp) ++ (ouW G oa of ++ [])))) H := hP
      have hD : va_D (lo G) (([]) ++ (oW G a vo jo ++ ((oW G b vp jp) ++ (ouW G oa of ++ [])))) := hD
      refine k2I (b1 := fun (u9 : JT × (Nat → Int32)) => oW G a vo u9.1) (b2 := fun (u9 : JT × (Nat → Int32)) => ouW G oa u9.2) (va_runS (As := [.ref (a 0), .int (nI (1)), .ref oa]) (rest := []) ⟨hx, hb, hml, hown, hts⟩ (c_L_isNextSo a vo jo oa of 1 (by omega) hv hpc (by omega) hjo hfl (f2_P hP) ((f2_D hD).weaken (fun _ _ _ h => hLo _ h))) (va_cwS 3 hts gL_law_L_isNextSo rfl rfl rfl (by decide +kernel) ⟨(Nat.le_of_ble_eq_true rfl), (Nat.le_of_ble_eq_true rfl)⟩) (preSX hCX hS hLo) rfl rfl hl.1 rfl (lv_room (Nat.le_of_ble_eq_true rfl)) dL_law_240 ⟨by show _ ≤ 600104; omega, by show _ ≤ 7301314; omega⟩) hP hD hS hA (fun _ => oW_fst) (fun _ => rfl) (fun r_13 u_14 H locs q_15 hP hD hS => ?_)
      have hP : PP G (oW G a vo u_14.1 ++ (oW G b vp jp ++ ouW G oa u_14.2)) H := hP
      have hD : va_D (lo G) (oW G a vo u_14.1 ++ (oW G b vp jp ++ ouW G oa u_14.2)) := hD
      refine topE (v' := nI 1) q_15.1 ?_
      refine lv_if_eq (tgt := 254) hx hb dL_law_243 (by decide) (fun c_16 => ?_) (fun c_16 => ?_)
      · have f_17 : (1 : Int) = (0 : Int) := (c_eq (nI_toInt (n := 1) (by omega)) rfl).mp c_16
        exfalso; omega
      · have f_18 : ¬ (1 : Int) = (0 : Int) := fun z => c_16 ((c_eq (nI_toInt (n := 1) (by omega)) rfl).mpr z)
        refine W.widen (k := c0 + 1) (n := s0 + 6) (by omega) (by omega) ?_
        exact hk u_14.1 u_14.2 q_15.2.1 H locs ls hP hD hS (lv_sub hl [0, 1, 2, 3, 4] rfl)

set_option maxHeartbeats 4000000 in
set_option maxRecDepth 100000 in
theorem sg_b {pg : Program} {l : Launch} {ev : Env} {s : State} {m : MethodId} {below : List Frame} {meth : Method} {c : Code} {Q : State → Prop} {G : GT} {bq L : Nat} {xs : Nat → Int32} (hLK : LK pg l s m meth c bq L xs G) (c0 s0 : Nat) (hroom : c0 + 1 ≤ 600104 ∧ s0 + 6 ≤ 7301314) {a b : Nat → Nat} {oa : Nat} {vo vp : SVT} {jo jp : JT} {of : Nat → Int32} (e : Nat) (he : e < 52) (x0 tl : Int32) (hv : OKS vo) (hpc : PIC vo) (hw : OKS vp) (hpi : sPi vo ≤ e + 1) (hpp : sPi vp < 999) (hjo : OKJ jo) (hjp : OKJ jp) (hcb : chT (acA x0).1 (acA x0).2.1 (acA x0).2.2.1 (acA x0).2.2.2 ≤ 2) (hB : ∀ (u : CT3), (chT (acA x0).1 (acA x0).2.1 (acA x0).2.2.1 (acA x0).2.2.2 = 0 → ∃ mo : Nat → Nat, M25 mo ∧ u.1 = chV (acA x0).1 (acA x0).2.1 (acA x0).2.2.1 (acA x0).2.2.2 vp mo ∧ OKJ u.2.1 ∧ jH u.2.1 = rcH (jH jp) vp ∧ u.2.2 0 = chR (acA x0).1 (acA x0).2.1 (acA x0).2.2.1 (acA x0).2.2.2 vp) ∧ (¬ chT (acA x0).1 (acA x0).2.1 (acA x0).2.2.1 (acA x0).2.2.2 = 0 → u = (vp, jp, of)) → OKS u.1 ∧ SIM vo u.1 ∧ sPi vo ≤ e + 1 ∧ OKJ u.2.1 ∧ (chT (acA x0).1 (acA x0).2.1 (acA x0).2.2.1 (acA x0).2.2.2 = 0 → u.2.2 0 = tl)) (H : Heap) (locs : List Loc) (ls : Array Slot) (hP : PP G (oW G a vo jo ++ (oW G b vp jp ++ ouW G oa of)) H) (hD : va_D (lo G) (oW G a vo jo ++ (oW G b vp jp ++ ouW G oa of))) (hS : va_S (lo G) s.heap H locs) (hl : lv_has ls 10 [(0, .ref bq), (1, .ref (a 0)), (2, .ref (b 0)), (3, .ref oa), (4, .int (nI (e))), (5, .int (x0)), (7, .int (nI (chT (acA x0).1 (acA x0).2.1 (acA x0).2.2.1 (acA x0).2.2.2))), (8, .int (tl))]) (hk : ∀ (vp' : SVT) (jo' jp' : JT) (of' : Nat → Int32), OKS vp' → SIM vo vp' → OKJ jo' → OKJ jp' → ∀ (H : Heap) (locs : List Loc) (ls : Array Slot), PP G (oW G a vo jo' ++ (oW G b vp' jp' ++ ouW G oa of')) H → va_D (lo G) (oW G a vo jo' ++ (oW G b vp' jp' ++ ouW G oa of')) → va_S (lo G) s.heap H locs → lv_has ls 10 [(0, .ref bq), (1, .ref (a 0)), (2, .ref (b 0)), (3, .ref oa), (4, .int (nI (e))), (5, .int (x0))] → W pg l ev room_1 s m #[Value.ref bq] below meth c H locs (c0 + 1) (s0 + 6) Q (F0 m 191 ls [])) :
    W pg l ev room_1 s m #[Value.ref bq] below meth c H locs c0 s0 Q (F0 m 149 ls []) := by
  obtain ⟨hx, hb, hml, hown, hts, hX, hbl, hCX, hgB, hfl, hL9⟩ := hLK
  have hC := hCX.1
  have hLo : ∀ q, lo G q → lo G q := fun _ h => h
  have hA : ∀ q, s.heap.size ≤ q → lo G q := fun q h => by show gB G ≤ q; rw [hgB]; exact h
  have hbA : ¬ lo G bq := by show ¬ gB G ≤ bq; rw [hgB]; omega
  refine lv_aload_n hx hb dL_law_149 rfl (lv_at hl 2 rfl) ?_
  refine lv_iload hx hb dL_law_150 (lv_at hl 5 rfl) ?_
  refine lv_aload_n hx hb dL_law_152 rfl (lv_at hl 3 rfl) ?_
  have hP : PP G ((oW G a vo jo) ++ (oW G b vp jp ++ (([]) ++ (ouW G oa of ++ [])))) H := hP
  have hD : va_D (lo G) ((oW G a vo jo) ++ (oW G b vp jp ++ (([]) ++ (ouW G oa of ++ [])))) := hD
  refine k2I (b1 := fun (u9 : CT3) => oW G b u9.1 u9.2.1) (b2 := fun (u9 : CT3) => ouW G oa u9.2.2) (va_runS (As := [.ref (b 0), .int (x0), .ref oa]) (rest := []) ⟨hx, hb, hml, hown, hts⟩ (c_L_act b vp jp oa of x0 hw hpp hjp hfl (f2_P hP) ((f2_D hD).weaken (fun _ _ _ h => hLo _ h))) (va_cwS 3 hts gL_law_L_act rfl rfl rfl (by decide +kernel) ⟨(Nat.le_of_ble_eq_true rfl), (Nat.le_of_ble_eq_true rfl)⟩) (preSX hCX hS hLo) rfl rfl hl.1 rfl (lv_room (Nat.le_of_ble_eq_true rfl)) dL_law_153 ⟨by show _ ≤ 600104; omega, by show _ ≤ 7301314; omega⟩) hP hD hS hA (fun _ => oW_fst) (fun _ => rfl) (fun r_1 u_2 H locs q_3 hP hD hS => ?_)
  have hP : PP G (oW G a vo jo ++ (oW G b u_2.1 u_2.2.1 ++ ouW G oa u_2.2.2)) H := hP
  have hD : va_D (lo G) (oW G a vo jo ++ (oW G b u_2.1 u_2.2.1 ++ ouW G oa u_2.2.2)) := hD
  refine topE (v' := nI (chT (acA x0).1 (acA x0).2.1 (acA x0).2.2.1 (acA x0).2.2.2)) q_3.1 ?_
  obtain ⟨hw2, hs2, hpi2, hjp2, htl2⟩ : OKS u_2.1 ∧ SIM vo u_2.1 ∧ sPi vo ≤ e + 1 ∧ OKJ u_2.2.1 ∧ (chT (acA x0).1 (acA x0).2.1 (acA x0).2.2.1 (acA x0).2.2.2 = 0 → u_2.2.2 0 = tl) := hB u_2 q_3.2
  refine lv_iload hx hb dL_law_156 (lv_at hl 6 rfl) ?_
  refine lv_icmp_ne (tgt := 189) hx hb dL_law_158 (by decide) (fun c_4 => ?_) (fun c_4 => ?_)
  · have f_5 := c_4
    exact absurd rfl f_5
  · have f_6 := c_4
    by_cases h0 : chT (acA x0).1 (acA x0).2.1 (acA x0).2.2.1 (acA x0).2.2.2 = 0
    · skip
      refine lv_iload hx hb dL_law_161 (lv_at hl 6 rfl) ?_
      refine lv_if_ne (tgt := 174) hx hb dL_law_163 (by decide) (fun c_7 => ?_) (fun c_7 => ?_)
      · have f_8 : ¬ ((chT (acA x0).1 (acA x0).2.1 (acA x0).2.2.1 (acA x0).2.2.2 : Nat) : Int) = (0 : Int) := fun z => c_7 ((c_eq (nI_toInt (n := chT (acA x0).1 (acA x0).2.1 (acA x0).2.2.1 (acA x0).2.2.2) (by omega)) rfl).mpr z)
        exact absurd h0 (by omega)
      · have f_9 : ((chT (acA x0).1 (acA x0).2.1 (acA x0).2.2.1 (acA x0).2.2.2 : Nat) : Int) = (0 : Int) := (c_eq (nI_toInt (n := chT (acA x0).1 (acA x0).2.1 (acA x0).2.2.1 (acA x0).2.2.2) (by omega)) rfl).mp c_7
        refine lv_aload_n hx hb dL_law_166 rfl (lv_at hl 3 rfl) ?_
        refine lv_iconst (v := nI (0)) hx hb dL_law_167 (by decide) ?_
        refine gIald (j := 0) hx hb hC.K (PP_r (PP_r hP)) 0 0 rfl rfl rfl (by decide) (by decide) dL_law_168 ?_
        refine topE (v' := tl) (htl2 h0) ?_
        refine lv_iload hx hb dL_law_169 (lv_at hl 7 rfl) ?_
        refine lv_icmp_ne (tgt := 189) hx hb dL_law_171 (by decide) (fun c_10 => ?_) (fun c_10 => ?_)
        · have f_11 := c_10
          exact absurd rfl f_11
        · have f_12 := c_10
          refine lv_aload_n hx hb dL_law_174 rfl (lv_at hl 1 rfl) ?_
          refine lv_aload_n hx hb dL_law_175 rfl (lv_at hl 2 rfl) ?_
          refine kWi (va_runS (As := [.ref (a 0), .ref (b 0)]) (rest := []) ⟨hx, hb, hml, hown, hts⟩ (c_L_areAlike a b vo u_2.1 jo u_2.2.1 (ouW G oa u_2.2.2) hv hw2 hs2 (by omega) hjo hjp2 hP (hD.weaken (fun _ _ _ h => hLo _ h))) (va_cwS 2 hts gL_law_L_areAlike rfl rfl rfl (by decide +kernel) ⟨(Nat.le_of_ble_eq_true rfl), (Nat.le_of_ble_eq_true rfl)⟩) (preS hC hS hLo) rfl rfl hl.1 rfl (lv_room (Nat.le_of_ble_eq_true rfl)) dL_law_176 ⟨by show _ ≤ 600104; omega, by show _ ≤ 7301314; omega⟩) hP hD hS hA (fun _ => o3_fst) (fun r_13 u_14 H locs q_15 hP hD hS => ?_)
          have hP : PP G (oW G a vo u_14.1 ++ (oW G b u_2.1 u_14.2 ++ ouW G oa u_2.2.2)) H := hP
          have hD : va_D (lo G) (oW G a vo u_14.1 ++ (oW G b u_2.1 u_14.2 ++ ouW G oa u_2.2.2)) := hD
          refine topE (v' := nI 1) q_15.1 ?_
          refine lv_if_eq (tgt := 189) hx hb dL_law_179 (by decide) (fun c_16 => ?_) (fun c_16 => ?_)
          · have f_17 : (1 : Int) = (0 : Int) := (c_eq (nI_toInt (n := 1) (by omega)) rfl).mp c_16
            exfalso; omega
          · have f_18 : ¬ (1 : Int) = (0 : Int) := fun z => c_16 ((c_eq (nI_toInt (n := 1) (by omega)) rfl).mpr z)
            refine lv_aload_n hx hb dL_law_182 rfl (lv_at hl 1 rfl) ?_
            refine kPi (va_runS (As := [.ref (a 0)]) (rest := []) ⟨hx, hb, hml, hown, hts⟩ (c_L_arePicturesSo a vo u_14.1 hv hpc (by omega) (PP_l hP)) (va_cwS 1 hts gL_law_L_arePicturesSo rfl rfl rfl (by decide +kernel) ⟨(Nat.le_of_ble_eq_true rfl), (Nat.le_of_ble_eq_true rfl)⟩) (preS hC hS hLo) rfl rfl hl.1 rfl (lv_room (Nat.le_of_ble_eq_true rfl)) dL_law_183 ⟨by show _ ≤ 600104; omega, by show _ ≤ 7301314; omega⟩) hS (fun locs hS => ?_)
            refine lv_if_ne (tgt := 191) hx hb dL_law_186 (by decide) (fun c_19 => ?_) (fun c_19 => ?_)
            · have f_20 : ¬ (1 : Int) = (0 : Int) := fun z => c_19 ((c_eq (nI_toInt (n := 1) (by omega)) rfl).mpr z)
              refine W.widen (k := c0 + 1) (n := s0 + 6) (by omega) (by omega) ?_
              exact hk u_2.1 u_14.1 u_14.2 u_2.2.2 hw2 hs2 q_15.2.1 q_15.2.2.2.1 H locs ls hP hD hS (lv_sub hl [0, 1, 2, 3, 4, 5] rfl)
            · have f_21 : (1 : Int) = (0 : Int) := (c_eq (nI_toInt (n := 1) (by omega)) rfl).mp c_19
              exfalso; omega
    · skip
      refine lv_iload hx hb dL_law_161 (lv_at hl 6 rfl) ?_
      refine lv_if_ne (tgt := 174) hx hb dL_law_163 (by decide) (fun c_22 => ?_) (fun c_22 => ?_)
      · have f_23 : ¬ ((chT (acA x0).1 (acA x0).2.1 (acA x0).2.2.1 (acA x0).2.2.2 : Nat) : Int) = (0 : Int) := fun z => c_22 ((c_eq (nI_toInt (n := chT (acA x0).1 (acA x0).2.1 (acA x0).2.2.1 (acA x0).2.2.2) (by omega)) rfl).mpr z)
        refine lv_aload_n hx hb dL_law_174 rfl (lv_at hl 1 rfl) ?_
        refine lv_aload_n hx hb dL_law_175 rfl (lv_at hl 2 rfl) ?_
        refine kWi (va_runS (As := [.ref (a 0), .ref (b 0)]) (rest := []) ⟨hx, hb, hml, hown, hts⟩ (c_L_areAlike a b vo u_2.1 jo u_2.2.1 (ouW G oa u_2.2.2) hv hw2 hs2 (by omega) hjo hjp2 hP (hD.weaken (fun _ _ _ h => hLo _ h))) (va_cwS 2 hts gL_law_L_areAlike rfl rfl rfl (by decide +kernel) ⟨(Nat.le_of_ble_eq_true rfl), (Nat.le_of_ble_eq_true rfl)⟩) (preS hC hS hLo) rfl rfl hl.1 rfl (lv_room (Nat.le_of_ble_eq_true rfl)) dL_law_176 ⟨by show _ ≤ 600104; omega, by show _ ≤ 7301314; omega⟩) hP hD hS hA (fun _ => o3_fst) (fun r_24 u_25 H locs q_26 hP hD hS => ?_)
        have hP : PP G (oW G a vo u_25.1 ++ (oW G b u_2.1 u_25.2 ++ ouW G oa u_2.2.2)) H := hP
        have hD : va_D (lo G) (oW G a vo u_25.1 ++ (oW G b u_2.1 u_25.2 ++ ouW G oa u_2.2.2)) := hD
        refine topE (v' := nI 1) q_26.1 ?_
        refine lv_if_eq (tgt := 189) hx hb dL_law_179 (by decide) (fun c_27 => ?_) (fun c_27 => ?_)
        · have f_28 : (1 : Int) = (0 : Int) := (c_eq (nI_toInt (n := 1) (by omega)) rfl).mp c_27
          exfalso; omega
        · have f_29 : ¬ (1 : Int) = (0 : Int) := fun z => c_27 ((c_eq (nI_toInt (n := 1) (by omega)) rfl).mpr z)
          refine lv_aload_n hx hb dL_law_182 rfl (lv_at hl 1 rfl) ?_
          refine kPi (va_runS (As := [.ref (a 0)]) (rest := []) ⟨hx, hb, hml, hown, hts⟩ (c_L_arePicturesSo a vo u_25.1 hv hpc (by omega) (PP_l hP)) (va_cwS 1 hts gL_law_L_arePicturesSo rfl rfl rfl (by decide +kernel) ⟨(Nat.le_of_ble_eq_true rfl), (Nat.le_of_ble_eq_true rfl)⟩) (preS hC hS hLo) rfl rfl hl.1 rfl (lv_room (Nat.le_of_ble_eq_true rfl)) dL_law_183 ⟨by show _ ≤ 600104; omega, by show _ ≤ 7301314; omega⟩) hS (fun locs hS => ?_)
          refine lv_if_ne (tgt := 191) hx hb dL_law_186 (by decide) (fun c_30 => ?_) (fun c_30 => ?_)
          · have f_31 : ¬ (1 : Int) = (0 : Int) := fun z => c_30 ((c_eq (nI_toInt (n := 1) (by omega)) rfl).mpr z)
            refine W.widen (k := c0 + 1) (n := s0 + 6) (by omega) (by omega) ?_
            exact hk u_2.1 u_25.1 u_25.2 u_2.2.2 hw2 hs2 q_26.2.1 q_26.2.2.2.1 H locs ls hP hD hS (lv_sub hl [0, 1, 2, 3, 4, 5] rfl)
          · have f_32 : (1 : Int) = (0 : Int) := (c_eq (nI_toInt (n := 1) (by omega)) rfl).mp c_30
            exfalso; omega
      · have f_33 : ((chT (acA x0).1 (acA x0).2.1 (acA x0).2.2.1 (acA x0).2.2.2 : Nat) : Int) = (0 : Int) := (c_eq (nI_toInt (n := chT (acA x0).1 (acA x0).2.1 (acA x0).2.2.1 (acA x0).2.2.2) (by omega)) rfl).mp c_22
        exact absurd (show chT (acA x0).1 (acA x0).2.1 (acA x0).2.2.1 (acA x0).2.2.2 = 0 by omega) h0
