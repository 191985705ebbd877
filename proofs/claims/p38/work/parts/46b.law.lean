theorem chT_le (how : Nat) (x y z : Int32) : chT how x y z ≤ 2 := by
  unfold chT
  split <;> (repeat' split) <;> omega
theorem acA_5 (x0 : Int32) : (acA x0).1 ≤ 5 := by
  unfold acA
  repeat' split
  all_goals exact Nat.le_of_ble_eq_true rfl
theorem acA_3 (x0 : Int32) : (acA x0).1 = 3 → (acA x0).2.1 = nI 0 ∨ (acA x0).2.1 = nI 1 := by
  unfold acA
  split
  · split
    · split
      · split
        · split
          · intro h; cases h
          · intro h; cases h
        · intro _
          show (if _ then nI 1 else nI 0) = nI 0 ∨ (if _ then nI 1 else nI 0) = nI 1
          split
          · exact Or.inr rfl
          · exact Or.inl rfl
      · intro h; cases h
    · intro h; cases h
  · intro h; cases h
set_option maxHeartbeats 4000000 in
set_option maxRecDepth 100000 in
theorem sg_a {pg : Program} {l : Launch} {ev : Env} {s : State} {m : MethodId} {below : List Frame} {meth : Method} {c : Code} {Q : State → Prop} {G : GT} {bq L : Nat} {xs : Nat → Int32} (hLK : LK pg l s m meth c bq L xs G) (c0 s0 : Nat) (hroom : c0 + 2 ≤ 600104 ∧ s0 + 12 ≤ 7301314) {a b : Nat → Nat} {oa : Nat} {vo vp : SVT} {jo jp : JT} {of : Nat → Int32} (e : Nat) (he : e < 52) (x0 : Int32) (hx0 : clI L xs e = x0) (hcb : chT (acA x0).1 (acA x0).2.1 (acA x0).2.2.1 (acA x0).2.2.2 ≤ 2) (hv : OKS vo) (hpc : PIC vo) (hw : OKS vp) (hs : SIM vo vp) (hpi : sPi vo ≤ e) (hjo : OKJ jo) (hjp : OKJ jp) (H : Heap) (locs : List Loc) (ls : Array Slot) (hP : PP G (oW G a vo jo ++ (oW G b vp jp ++ ouW G oa of)) H) (hD : va_D (lo G) (oW G a vo jo ++ (oW G b vp jp ++ ouW G oa of))) (hS : va_S (lo G) s.heap H locs) (hl : lv_has ls 10 [(0, .ref bq), (1, .ref (a 0)), (2, .ref (b 0)), (3, .ref oa), (4, .int (nI (e)))]) (hk : ∀ (vo' : SVT) (jo' jp' : JT) (of' : Nat → Int32) (tl : Int32), OKS vo' → PIC vo' → sPi vo' ≤ e + 1 → OKJ jo' → OKJ jp' → ((chT (acA x0).1 (acA x0).2.1 (acA x0).2.2.1 (acA x0).2.2.2 = 0 → ∃ mo : Nat → Nat, vo' = chV (acA x0).1 (acA x0).2.1 (acA x0).2.2.1 (acA x0).2.2.2 vo mo ∧ tl = chR (acA x0).1 (acA x0).2.1 (acA x0).2.2.1 (acA x0).2.2.2 vo) ∧ (¬ chT (acA x0).1 (acA x0).2.1 (acA x0).2.2.1 (acA x0).2.2.2 = 0 → vo' = vo)) → ∀ (H : Heap) (locs : List Loc) (ls : Array Slot), PP G (oW G a vo' jo' ++ (oW G b vp jp' ++ ouW G oa of')) H → va_D (lo G) (oW G a vo' jo' ++ (oW G b vp jp' ++ ouW G oa of')) → va_S (lo G) s.heap H locs → lv_has ls 10 [(0, .ref bq), (1, .ref (a 0)), (2, .ref (b 0)), (3, .ref oa), (4, .int (nI (e))), (5, .int (x0)), (7, .int (nI (chT (acA x0).1 (acA x0).2.1 (acA x0).2.2.1 (acA x0).2.2.2))), (8, .int (tl))] → W pg l ev room_1 s m #[Value.ref bq] below meth c H locs (c0 + 2) (s0 + 12) Q (F0 m 149 ls [])) :
    W pg l ev room_1 s m #[Value.ref bq] below meth c H locs c0 s0 Q (F0 m 30 ls []) := by
  obtain ⟨hx, hb, hml, hown, hts, hX, hbl, hCX, hgB, hfl, hL9⟩ := hLK
  have hC := hCX.1
  have hLo : ∀ q, lo G q → lo G q := fun _ h => h
  have hA : ∀ q, s.heap.size ≤ q → lo G q := fun q h => by show gB G ≤ q; rw [hgB]; exact h
  have hbA : ¬ lo G bq := by show ¬ gB G ≤ bq; rw [hgB]; omega
  have hct : (jH jo).2.1 ≤ 6 := hjo.2.2.2
  refine lv_aload_n hx hb dL_law_30 rfl (lv_at hl 0 rfl) ?_
  refine lv_iload hx hb dL_law_31 (lv_at hl 4 rfl) ?_
  refine kPi (va_runS (As := [.ref bq, .int (nI (e))]) (rest := []) ⟨hx, hb, hml, hown, hts⟩ (c_L_cell bq L xs e (by omega) hL9 (Nat.lt_of_lt_of_le hbl hS.1)) (va_cwS 2 hts gL_law_L_cell rfl rfl rfl (by decide +kernel) ⟨(Nat.le_of_ble_eq_true rfl), (Nat.le_of_ble_eq_true rfl)⟩) (preSS hC hS hLo hX hbl hbA) rfl rfl hl.1 rfl (lv_room (Nat.le_of_ble_eq_true rfl)) dL_law_33 ⟨by show _ ≤ 600104; omega, by show _ ≤ 7301314; omega⟩) hS (fun locs hS => ?_)
  refine topE (v' := x0) hx0 ?_
  refine lv_istore (lv' := [(5, .int (x0)), (0, .ref bq), (1, .ref (a 0)), (2, .ref (b 0)), (3, .ref oa), (4, .int (nI (e)))]) hx hb dL_law_36 hl (by decide) rfl (fun ls hl => ?_)
  refine lv_aload_n hx hb dL_law_38 rfl (lv_at hl 2 rfl) ?_
  refine kPi (va_runV (As := []) (rest := []) ⟨hx, hb, hml, hown, hts⟩ (c_X8_undoCount a (jH jo).1 (jH jo).2.1 (oW_his (PP_l hP))) (cwV 0 hts gL_law_X8_undoCount rfl rfl rfl (by decide +kernel) ⟨(Nat.le_of_ble_eq_true rfl), (Nat.le_of_ble_eq_true rfl)⟩) (preV hC hS hLo (oW_obj (PP_l hP)) (ci := 7) (q0 := 0) rfl rfl) rfl rfl hl.1 rfl (lv_room (Nat.le_of_ble_eq_true rfl)) dL_law_39 ⟨by show _ ≤ 600104; omega, by show _ ≤ 7301314; omega⟩) hS (fun locs hS => ?_)
  refine lv_istore (lv' := [(6, .int (nI ((jH jo).2.1))), (5, .int (x0)), (0, .ref bq), (1, .ref (a 0)), (2, .ref (b 0)), (3, .ref oa), (4, .int (nI (e)))]) hx hb dL_law_42 hl (by decide) rfl (fun ls hl => ?_)
  refine lv_aload_n hx hb dL_law_44 rfl (lv_at hl 3 rfl) ?_
  refine lv_iload hx hb dL_law_45 (lv_at hl 1 rfl) ?_
  refine lv_aload_n hx hb dL_law_47 rfl (lv_at hl 5 rfl) ?_
  have hP : PP G (([]) ++ (oW G a vo jo ++ ((oW G b vp jp) ++ (ouW G oa of ++ [])))) H := hP
  have hD : va_D (lo G) (([]) ++ (oW G a vo jo ++ ((oW G b vp jp) ++ (ouW G oa of ++ [])))) := hD
  refine k2I (b1 := fun (u9 : CT3) => oW G a u9.1 u9.2.1) (b2 := fun (u9 : CT3) => ouW G oa u9.2.2) (va_runS (As := [.ref (a 0), .int (x0), .ref oa]) (rest := []) ⟨hx, hb, hml, hown, hts⟩ (c_L_act a vo jo oa of x0 hv (by omega) hjo hfl (f2_P hP) ((f2_D hD).weaken (fun _ _ _ h => hLo _ h))) (va_cwS 3 hts gL_law_L_act rfl rfl rfl (by decide +kernel) ⟨(Nat.le_of_ble_eq_true rfl), (Nat.le_of_ble_eq_true rfl)⟩) (preSX hCX hS hLo) rfl rfl hl.1 rfl (lv_room (Nat.le_of_ble_eq_true rfl)) dL_law_48 ⟨by show _ ≤ 600104; omega, by show _ ≤ 7301314; omega⟩) hP hD hS hA (fun _ => oW_fst) (fun _ => rfl) (fun r_1 u_2 H locs q_3 hP hD hS => ?_)
  have hP : PP G (oW G a u_2.1 u_2.2.1 ++ (oW G b vp jp ++ ouW G oa u_2.2.2)) H := hP
  have hD : va_D (lo G) (oW G a u_2.1 u_2.2.1 ++ (oW G b vp jp ++ ouW G oa u_2.2.2)) := hD
  refine topE (v' := nI (chT (acA x0).1 (acA x0).2.1 (acA x0).2.2.1 (acA x0).2.2.2)) q_3.1 ?_
  have hq0 := q_3.2.1
  have hq1 := q_3.2.2
  clear q_3
  by_cases h0 : chT (acA x0).1 (acA x0).2.1 (acA x0).2.2.1 (acA x0).2.2.2 = 0
  · obtain ⟨v1, j1, of1⟩ := u_2
    obtain ⟨mo, hmo, hu1, hj1, hjh1, hof⟩ := hq0 h0
    have hu1 : v1 = chV (acA x0).1 (acA x0).2.1 (acA x0).2.2.1 (acA x0).2.2.2 vo mo := hu1
    have hj1 : OKJ j1 := hj1
    have hjh1 : jH j1 = rcH (jH jo) vo := hjh1
    have hof : of1 0 = chR (acA x0).1 (acA x0).2.1 (acA x0).2.2.1 (acA x0).2.2.2 vo := hof
    have hP : PP G (oW G a v1 j1 ++ (oW G b vp jp ++ ouW G oa of1)) H := hP
    have hD : va_D (lo G) (oW G a v1 j1 ++ (oW G b vp jp ++ ouW G oa of1)) := hD
    refine lv_istore (lv' := [(7, .int (nI (chT (acA x0).1 (acA x0).2.1 (acA x0).2.2.1 (acA x0).2.2.2))), (6, .int (nI ((jH jo).2.1))), (5, .int (x0)), (0, .ref bq), (1, .ref (a 0)), (2, .ref (b 0)), (3, .ref oa), (4, .int (nI (e)))]) hx hb dL_law_51 hl (by decide) rfl (fun ls hl => ?_)
    refine lv_aload_n hx hb dL_law_53 rfl (lv_at hl 6 rfl) ?_
    refine lv_iconst (v := nI (0)) hx hb dL_law_54 (by decide) ?_
    refine gIald (j := 0) hx hb hC.K (PP_r (PP_r hP)) 0 0 rfl rfl rfl (by decide) (by decide) dL_law_55 ?_
    refine topE (v' := chR (acA x0).1 (acA x0).2.1 (acA x0).2.2.1 (acA x0).2.2.2 vo) (hof) ?_
    refine lv_istore (lv' := [(8, .int (chR (acA x0).1 (acA x0).2.1 (acA x0).2.2.1 (acA x0).2.2.2 vo)), (7, .int (nI (chT (acA x0).1 (acA x0).2.1 (acA x0).2.2.1 (acA x0).2.2.2))), (6, .int (nI ((jH jo).2.1))), (5, .int (x0)), (0, .ref bq), (1, .ref (a 0)), (2, .ref (b 0)), (3, .ref oa), (4, .int (nI (e)))]) hx hb dL_law_56 hl (by decide) rfl (fun ls hl => ?_)
    refine lv_iload hx hb dL_law_58 (lv_at hl 1 rfl) ?_
    refine lv_if_eq (tgt := 82) hx hb dL_law_60 (by decide) (fun c_4 => ?_) (fun c_4 => ?_)
    · have f_5 : ((chT (acA x0).1 (acA x0).2.1 (acA x0).2.2.1 (acA x0).2.2.2 : Nat) : Int) = (0 : Int) := (c_eq (nI_toInt (n := chT (acA x0).1 (acA x0).2.1 (acA x0).2.2.1 (acA x0).2.2.2) (by omega)) rfl).mp c_4
      refine lv_iload hx hb dL_law_82 (lv_at hl 1 rfl) ?_
      refine lv_if_ne (tgt := 149) hx hb dL_law_84 (by decide) (fun c_6 => ?_) (fun c_6 => ?_)
      · have f_7 : ¬ ((chT (acA x0).1 (acA x0).2.1 (acA x0).2.2.1 (acA x0).2.2.2 : Nat) : Int) = (0 : Int) := fun z => c_6 ((c_eq (nI_toInt (n := chT (acA x0).1 (acA x0).2.1 (acA x0).2.2.1 (acA x0).2.2.2) (by omega)) rfl).mpr z)
        exact absurd h0 (by omega)
      · have f_8 : ((chT (acA x0).1 (acA x0).2.1 (acA x0).2.2.1 (acA x0).2.2.2 : Nat) : Int) = (0 : Int) := (c_eq (nI_toInt (n := chT (acA x0).1 (acA x0).2.1 (acA x0).2.2.1 (acA x0).2.2.2) (by omega)) rfl).mp c_6
        refine lv_iload hx hb dL_law_87 (lv_at hl 3 rfl) ?_
        refine lv_bipush (v := nI (9)) hx hb dL_law_89 (by decide) ?_
        refine g_ishr (z := x0 >>> ((nI (9)) &&& 31)) hx hb dL_law_91 (rfl) ?_
        refine lv_iconst (v := nI (1)) hx hb dL_law_92 (by decide) ?_
        refine g_iand (z := (x0 >>> ((nI (9)) &&& 31)) &&& (nI (1))) hx hb dL_law_93 (rfl) ?_
        refine lv_if_ne (tgt := 149) hx hb dL_law_94 (by decide) (fun c_9 => ?_) (fun c_9 => ?_)
        · have f_10 : ¬ ((x0 >>> ((nI (9)) &&& 31)) &&& (nI (1)) : Int32) = 0 := c_9
          refine W.widen (k := c0 + 2) (n := s0 + 12) (by omega) (by omega) ?_
          have hend := chV_ok (mo := mo) hv hpc (acA_3 x0) h0 (acA_5 x0)
          rw [← show v1 = chV (acA x0).1 (acA x0).2.1 (acA x0).2.2.1 (acA x0).2.2.2 vo mo from hu1] at hend
          exact hk v1 j1 jp of1 (chR (acA x0).1 (acA x0).2.1 (acA x0).2.2.1 (acA x0).2.2.2 vo) hend.1 hend.2.1 (Nat.le_trans hend.2.2 (Nat.succ_le_succ hpi)) hj1 hjp ⟨fun _ => ⟨mo, hu1, rfl⟩, fun z => absurd h0 z⟩ H locs ls hP hD hS (lv_sub hl [4, 5, 6, 7, 8, 3, 1, 0] rfl)
        · have f_11 : ((x0 >>> ((nI (9)) &&& 31)) &&& (nI (1)) : Int32) = 0 := c_9
          refine lv_aload_n hx hb dL_law_97 rfl (lv_at hl 5 rfl) ?_
          refine kPreI (va_runV (As := []) (rest := []) ⟨hx, hb, hml, hown, hts⟩ (o_undo a v1 j1 (jH jo) vo hjo.2.2.1 hj1 hjh1 (PP_l hP) ((pre_D hD).weaken (fun _ _ _ h => hLo _ h))) (cwV 0 hts gL_law_X8_undo rfl rfl rfl (by decide +kernel) ⟨(Nat.le_of_ble_eq_true rfl), (Nat.le_of_ble_eq_true rfl)⟩) (preV hC hS hLo (oW_obj (PP_l hP)) (ci := 7) (q0 := 0) rfl rfl) rfl rfl hl.1 rfl (lv_room (Nat.le_of_ble_eq_true rfl)) dL_law_98 ⟨by show _ ≤ 600104; omega, by show _ ≤ 7301314; omega⟩) hP hD hS hA (fun _ => oW_fst) (fun r_12 u_13 H locs q_14 hP hD hS => ?_)
          have hP : PP G (oW G a vo u_13 ++ (oW G b vp jp ++ ouW G oa of1)) H := hP
          have hD : va_D (lo G) (oW G a vo u_13 ++ (oW G b vp jp ++ ouW G oa of1)) := hD
          refine topE (v' := nI (min ((jH jo).2.1 + 1) 6 - 1)) q_14.1 ?_
          refine lv_istore (lv' := [(9, .int (nI (min ((jH jo).2.1 + 1) 6 - 1))), (8, .int (chR (acA x0).1 (acA x0).2.1 (acA x0).2.2.1 (acA x0).2.2.2 vo)), (7, .int (nI (chT (acA x0).1 (acA x0).2.1 (acA x0).2.2.1 (acA x0).2.2.2))), (6, .int (nI ((jH jo).2.1))), (5, .int (x0)), (0, .ref bq), (1, .ref (a 0)), (2, .ref (b 0)), (3, .ref oa), (4, .int (nI (e)))]) hx hb dL_law_101 hl (by decide) rfl (fun ls hl => ?_)
          refine lv_iload hx hb dL_law_103 (lv_at hl 0 rfl) ?_
          refine lv_iload hx hb dL_law_105 (lv_at hl 3 rfl) ?_
          refine lv_bipush (v := nI (6)) hx hb dL_law_107 (by decide) ?_
          refine lv_icmp_ne (tgt := 116) hx hb dL_law_109 (by decide) (fun c_15 => ?_) (fun c_15 => ?_)
          · have f_16 : ¬ (((jH jo).2.1 : Nat) : Int) = (6 : Int) := fun z => c_15 ((c_eq (nI_toInt (n := (jH jo).2.1) (by omega)) (nI_toInt (n := 6) (by omega))).mpr z)
            refine lv_iload hx hb dL_law_116 (lv_at hl 3 rfl) ?_
            refine lv_icmp_ne (tgt := 147) hx hb dL_law_118 (by decide) (fun c_17 => ?_) (fun c_17 => ?_)
            · have f_18 : ¬ ((min ((jH jo).2.1 + 1) 6 - 1 : Nat) : Int) = (((jH jo).2.1 : Nat) : Int) := fun z => c_17 ((c_eq (nI_toInt (n := min ((jH jo).2.1 + 1) 6 - 1) (by omega)) (nI_toInt (n := (jH jo).2.1) (by omega))).mpr z)
              exfalso; omega
            · have f_19 : ((min ((jH jo).2.1 + 1) 6 - 1 : Nat) : Int) = (((jH jo).2.1 : Nat) : Int) := (c_eq (nI_toInt (n := min ((jH jo).2.1 + 1) 6 - 1) (by omega)) (nI_toInt (n := (jH jo).2.1) (by omega))).mp c_17
              refine lv_aload_n hx hb dL_law_121 rfl (lv_at hl 6 rfl) ?_
              refine lv_aload_n hx hb dL_law_122 rfl (lv_at hl 7 rfl) ?_
              refine kWi (va_runS (As := [.ref (a 0), .ref (b 0)]) (rest := []) ⟨hx, hb, hml, hown, hts⟩ (c_L_areAlike a b vo vp u_13 jp (ouW G oa of1) hv hw hs (by omega) q_14.2.1 hjp hP (hD.weaken (fun _ _ _ h => hLo _ h))) (va_cwS 2 hts gL_law_L_areAlike rfl rfl rfl (by decide +kernel) ⟨(Nat.le_of_ble_eq_true rfl), (Nat.le_of_ble_eq_true rfl)⟩) (preS hC hS hLo) rfl rfl hl.1 rfl (lv_room (Nat.le_of_ble_eq_true rfl)) dL_law_123 ⟨by show _ ≤ 600104; omega, by show _ ≤ 7301314; omega⟩) hP hD hS hA (fun _ => o3_fst) (fun r_20 u_21 H locs q_22 hP hD hS => ?_)
              have hP : PP G (oW G a vo u_21.1 ++ (oW G b vp u_21.2 ++ ouW G oa of1)) H := hP
              have hD : va_D (lo G) (oW G a vo u_21.1 ++ (oW G b vp u_21.2 ++ ouW G oa of1)) := hD
              refine topE (v' := nI 1) q_22.1 ?_
              refine lv_if_eq (tgt := 147) hx hb dL_law_126 (by decide) (fun c_23 => ?_) (fun c_23 => ?_)
              · have f_24 : (1 : Int) = (0 : Int) := (c_eq (nI_toInt (n := 1) (by omega)) rfl).mp c_23
                exfalso; omega
              · have f_25 : ¬ (1 : Int) = (0 : Int) := fun z => c_23 ((c_eq (nI_toInt (n := 1) (by omega)) rfl).mpr z)
                refine lv_aload_n hx hb dL_law_129 rfl (lv_at hl 6 rfl) ?_
                refine lv_iload hx hb dL_law_130 (lv_at hl 4 rfl) ?_
                refine lv_aload_n hx hb dL_law_132 rfl (lv_at hl 8 rfl) ?_
                have hP : PP G (([]) ++ (oW G a vo u_21.1 ++ ((oW G b vp u_21.2) ++ (ouW G oa of1 ++ [])))) H := hP
                have hD : va_D (lo G) (([]) ++ (oW G a vo u_21.1 ++ ((oW G b vp u_21.2) ++ (ouW G oa of1 ++ [])))) := hD
                refine k2I (b1 := fun (u9 : CT3) => oW G a u9.1 u9.2.1) (b2 := fun (u9 : CT3) => ouW G oa u9.2.2) (va_runS (As := [.ref (a 0), .int (x0), .ref oa]) (rest := []) ⟨hx, hb, hml, hown, hts⟩ (c_L_act a vo u_21.1 oa of1 x0 hv (by omega) q_22.2.1 hfl (f2_P hP) ((f2_D hD).weaken (fun _ _ _ h => hLo _ h))) (va_cwS 3 hts gL_law_L_act rfl rfl rfl (by decide +kernel) ⟨(Nat.le_of_ble_eq_true rfl), (Nat.le_of_ble_eq_true rfl)⟩) (preSX hCX hS hLo) rfl rfl hl.1 rfl (lv_room (Nat.le_of_ble_eq_true rfl)) dL_law_133 ⟨by show _ ≤ 600104; omega, by show _ ≤ 7301314; omega⟩) hP hD hS hA (fun _ => oW_fst) (fun _ => rfl) (fun r_26 u_27 H locs q_28 hP hD hS => ?_)
                have hP : PP G (oW G a u_27.1 u_27.2.1 ++ (oW G b vp u_21.2 ++ ouW G oa u_27.2.2)) H := hP
                have hD : va_D (lo G) (oW G a u_27.1 u_27.2.1 ++ (oW G b vp u_21.2 ++ ouW G oa u_27.2.2)) := hD
                obtain ⟨mo2, hmo2, hu2, hj2, hjh2, hof2⟩ := q_28.2.1 h0
                refine topE (v' := nI 0) (q_28.1.trans (congrArg nI h0)) ?_
                refine lv_if_ne (tgt := 147) hx hb dL_law_136 (by decide) (fun c_29 => ?_) (fun c_29 => ?_)
                · have f_30 : ¬ (0 : Int) = (0 : Int) := fun z => c_29 ((c_eq (nI_toInt (n := 0) (by omega)) rfl).mpr z)
                  exfalso; omega
                · have f_31 : (0 : Int) = (0 : Int) := (c_eq (nI_toInt (n := 0) (by omega)) rfl).mp c_29
                  refine lv_aload_n hx hb dL_law_139 rfl (lv_at hl 8 rfl) ?_
                  refine lv_iconst (v := nI (0)) hx hb dL_law_140 (by decide) ?_
                  refine gIald (j := 0) hx hb hC.K (PP_r (PP_r hP)) 0 0 rfl rfl rfl (by decide) (by decide) dL_law_141 ?_
                  refine topE (v' := chR (acA x0).1 (acA x0).2.1 (acA x0).2.2.1 (acA x0).2.2.2 vo) (hof2) ?_
                  refine lv_iload hx hb dL_law_142 (lv_at hl 1 rfl) ?_
                  refine lv_icmp_eq (tgt := 149) hx hb dL_law_144 (by decide) (fun c_32 => ?_) (fun c_32 => ?_)
                  · have f_33 := c_32
                    refine W.widen (k := c0 + 2) (n := s0 + 12) (by omega) (by omega) ?_
                    have hend := chV_ok (mo := mo2) hv hpc (acA_3 x0) h0 (acA_5 x0)
                    rw [← show u_27.1 = chV (acA x0).1 (acA x0).2.1 (acA x0).2.2.1 (acA x0).2.2.2 vo mo2 from hu2] at hend
                    exact hk u_27.1 u_27.2.1 u_21.2 u_27.2.2 (chR (acA x0).1 (acA x0).2.1 (acA x0).2.2.1 (acA x0).2.2.2 vo) hend.1 hend.2.1 (Nat.le_trans hend.2.2 (Nat.succ_le_succ hpi)) hj2 q_22.2.2.2.1 ⟨fun _ => ⟨mo2, hu2, rfl⟩, fun z => absurd h0 z⟩ H locs ls hP hD hS (lv_sub hl [5, 6, 7, 8, 9, 4, 2, 1] rfl)
                  · have f_34 := c_32
                    exact absurd rfl f_34
          · have f_35 : (((jH jo).2.1 : Nat) : Int) = (6 : Int) := (c_eq (nI_toInt (n := (jH jo).2.1) (by omega)) (nI_toInt (n := 6) (by omega))).mp c_15
            refine lv_iconst (v := nI (5)) hx hb dL_law_112 (by decide) ?_
            refine lv_goto (tgt := 118) hx hb dL_law_113 (by decide) ?_
            refine lv_icmp_ne (tgt := 147) hx hb dL_law_118 (by decide) (fun c_36 => ?_) (fun c_36 => ?_)
            · have f_37 : ¬ ((min ((jH jo).2.1 + 1) 6 - 1 : Nat) : Int) = (5 : Int) := fun z => c_36 ((c_eq (nI_toInt (n := min ((jH jo).2.1 + 1) 6 - 1) (by omega)) (nI_toInt (n := 5) (by omega))).mpr z)
              exfalso; omega
            · have f_38 : ((min ((jH jo).2.1 + 1) 6 - 1 : Nat) : Int) = (5 : Int) := (c_eq (nI_toInt (n := min ((jH jo).2.1 + 1) 6 - 1) (by omega)) (nI_toInt (n := 5) (by omega))).mp c_36
              refine lv_aload_n hx hb dL_law_121 rfl (lv_at hl 6 rfl) ?_
              refine lv_aload_n hx hb dL_law_122 rfl (lv_at hl 7 rfl) ?_
              refine kWi (va_runS (As := [.ref (a 0), .ref (b 0)]) (rest := []) ⟨hx, hb, hml, hown, hts⟩ (c_L_areAlike a b vo vp u_13 jp (ouW G oa of1) hv hw hs (by omega) q_14.2.1 hjp hP (hD.weaken (fun _ _ _ h => hLo _ h))) (va_cwS 2 hts gL_law_L_areAlike rfl rfl rfl (by decide +kernel) ⟨(Nat.le_of_ble_eq_true rfl), (Nat.le_of_ble_eq_true rfl)⟩) (preS hC hS hLo) rfl rfl hl.1 rfl (lv_room (Nat.le_of_ble_eq_true rfl)) dL_law_123 ⟨by show _ ≤ 600104; omega, by show _ ≤ 7301314; omega⟩) hP hD hS hA (fun _ => o3_fst) (fun r_39 u_40 H locs q_41 hP hD hS => ?_)
              have hP : PP G (oW G a vo u_40.1 ++ (oW G b vp u_40.2 ++ ouW G oa of1)) H := hP
              have hD : va_D (lo G) (oW G a vo u_40.1 ++ (oW G b vp u_40.2 ++ ouW G oa of1)) := hD
              refine topE (v' := nI 1) q_41.1 ?_
              refine lv_if_eq (tgt := 147) hx hb dL_law_126 (by decide) (fun c_42 => ?_) (fun c_42 => ?_)
              · have f_43 : (1 : Int) = (0 : Int) := (c_eq (nI_toInt (n := 1) (by omega)) rfl).mp c_42
                exfalso; omega
              · have f_44 : ¬ (1 : Int) = (0 : Int) := fun z => c_42 ((c_eq (nI_toInt (n := 1) (by omega)) rfl).mpr z)
                refine lv_aload_n hx hb dL_law_129 rfl (lv_at hl 6 rfl) ?_
                refine lv_iload hx hb dL_law_130 (lv_at hl 4 rfl) ?_
                refine lv_aload_n hx hb dL_law_132 rfl (lv_at hl 8 rfl) ?_
                have hP : PP G (([]) ++ (oW G a vo u_40.1 ++ ((oW G b vp u_40.2) ++ (ouW G oa of1 ++ [])))) H := hP
                have hD : va_D (lo G) (([]) ++ (oW G a vo u_40.1 ++ ((oW G b vp u_40.2) ++ (ouW G oa of1 ++ [])))) := hD
                refine k2I (b1 := fun (u9 : CT3) => oW G a u9.1 u9.2.1) (b2 := fun (u9 : CT3) => ouW G oa u9.2.2) (va_runS (As := [.ref (a 0), .int (x0), .ref oa]) (rest := []) ⟨hx, hb, hml, hown, hts⟩ (c_L_act a vo u_40.1 oa of1 x0 hv (by omega) q_41.2.1 hfl (f2_P hP) ((f2_D hD).weaken (fun _ _ _ h => hLo _ h))) (va_cwS 3 hts gL_law_L_act rfl rfl rfl (by decide +kernel) ⟨(Nat.le_of_ble_eq_true rfl), (Nat.le_of_ble_eq_true rfl)⟩) (preSX hCX hS hLo) rfl rfl hl.1 rfl (lv_room (Nat.le_of_ble_eq_true rfl)) dL_law_133 ⟨by show _ ≤ 600104; omega, by show _ ≤ 7301314; omega⟩) hP hD hS hA (fun _ => oW_fst) (fun _ => rfl) (fun r_45 u_46 H locs q_47 hP hD hS => ?_)
                have hP : PP G (oW G a u_46.1 u_46.2.1 ++ (oW G b vp u_40.2 ++ ouW G oa u_46.2.2)) H := hP
                have hD : va_D (lo G) (oW G a u_46.1 u_46.2.1 ++ (oW G b vp u_40.2 ++ ouW G oa u_46.2.2)) := hD
                obtain ⟨mo2, hmo2, hu2, hj2, hjh2, hof2⟩ := q_47.2.1 h0
                refine topE (v' := nI 0) (q_47.1.trans (congrArg nI h0)) ?_
                refine lv_if_ne (tgt := 147) hx hb dL_law_136 (by decide) (fun c_48 => ?_) (fun c_48 => ?_)
                · have f_49 : ¬ (0 : Int) = (0 : Int) := fun z => c_48 ((c_eq (nI_toInt (n := 0) (by omega)) rfl).mpr z)
                  exfalso; omega
                · have f_50 : (0 : Int) = (0 : Int) := (c_eq (nI_toInt (n := 0) (by omega)) rfl).mp c_48
                  refine lv_aload_n hx hb dL_law_139 rfl (lv_at hl 8 rfl) ?_
                  refine lv_iconst (v := nI (0)) hx hb dL_law_140 (by decide) ?_
                  refine gIald (j := 0) hx hb hC.K (PP_r (PP_r hP)) 0 0 rfl rfl rfl (by decide) (by decide) dL_law_141 ?_
                  refine topE (v' := chR (acA x0).1 (acA x0).2.1 (acA x0).2.2.1 (acA x0).2.2.2 vo) (hof2) ?_
                  refine lv_iload hx hb dL_law_142 (lv_at hl 1 rfl) ?_
                  refine lv_icmp_eq (tgt := 149) hx hb dL_law_144 (by decide) (fun c_51 => ?_) (fun c_51 => ?_)
                  · have f_52 := c_51
                    refine W.widen (k := c0 + 2) (n := s0 + 12) (by omega) (by omega) ?_
                    have hend := chV_ok (mo := mo2) hv hpc (acA_3 x0) h0 (acA_5 x0)
                    rw [← show u_46.1 = chV (acA x0).1 (acA x0).2.1 (acA x0).2.2.1 (acA x0).2.2.2 vo mo2 from hu2] at hend
                    exact hk u_46.1 u_46.2.1 u_40.2 u_46.2.2 (chR (acA x0).1 (acA x0).2.1 (acA x0).2.2.1 (acA x0).2.2.2 vo) hend.1 hend.2.1 (Nat.le_trans hend.2.2 (Nat.succ_le_succ hpi)) hj2 q_41.2.2.2.1 ⟨fun _ => ⟨mo2, hu2, rfl⟩, fun z => absurd h0 z⟩ H locs ls hP hD hS (lv_sub hl [5, 6, 7, 8, 9, 4, 2, 1] rfl)
                  · have f_53 := c_51
                    exact absurd rfl f_53
    · have f_54 : ¬ ((chT (acA x0).1 (acA x0).2.1 (acA x0).2.2.1 (acA x0).2.2.2 : Nat) : Int) = (0 : Int) := fun z => c_4 ((c_eq (nI_toInt (n := chT (acA x0).1 (acA x0).2.1 (acA x0).2.2.1 (acA x0).2.2.2) (by omega)) rfl).mpr z)
      exact absurd h0 (by omega)
  · have e9 : u_2 = (vo, jo, of) := hq1 h0
    rw [e9] at hP hD
    have hP : PP G (oW G a vo jo ++ (oW G b vp jp ++ ouW G oa of)) H := hP
    have hD : va_D (lo G) (oW G a vo jo ++ (oW G b vp jp ++ ouW G oa of)) := hD
    refine lv_istore (lv' := [(7, .int (nI (chT (acA x0).1 (acA x0).2.1 (acA x0).2.2.1 (acA x0).2.2.2))), (6, .int (nI ((jH jo).2.1))), (5, .int (x0)), (0, .ref bq), (1, .ref (a 0)), (2, .ref (b 0)), (3, .ref oa), (4, .int (nI (e)))]) hx hb dL_law_51 hl (by decide) rfl (fun ls hl => ?_)
    refine lv_aload_n hx hb dL_law_53 rfl (lv_at hl 6 rfl) ?_
    refine lv_iconst (v := nI (0)) hx hb dL_law_54 (by decide) ?_
    refine gIald (j := 0) hx hb hC.K (PP_r (PP_r hP)) 0 0 rfl rfl rfl (by decide) (by decide) dL_law_55 ?_
    refine topE (v' := of 0) (rfl) ?_
    refine lv_istore (lv' := [(8, .int (of 0)), (7, .int (nI (chT (acA x0).1 (acA x0).2.1 (acA x0).2.2.1 (acA x0).2.2.2))), (6, .int (nI ((jH jo).2.1))), (5, .int (x0)), (0, .ref bq), (1, .ref (a 0)), (2, .ref (b 0)), (3, .ref oa), (4, .int (nI (e)))]) hx hb dL_law_56 hl (by decide) rfl (fun ls hl => ?_)
    refine lv_iload hx hb dL_law_58 (lv_at hl 1 rfl) ?_
    refine lv_if_eq (tgt := 82) hx hb dL_law_60 (by decide) (fun c_55 => ?_) (fun c_55 => ?_)
    · have f_56 : ((chT (acA x0).1 (acA x0).2.1 (acA x0).2.2.1 (acA x0).2.2.2 : Nat) : Int) = (0 : Int) := (c_eq (nI_toInt (n := chT (acA x0).1 (acA x0).2.1 (acA x0).2.2.1 (acA x0).2.2.2) (by omega)) rfl).mp c_55
      exact absurd (show chT (acA x0).1 (acA x0).2.1 (acA x0).2.2.1 (acA x0).2.2.2 = 0 by omega) h0
    · have f_57 : ¬ ((chT (acA x0).1 (acA x0).2.1 (acA x0).2.2.1 (acA x0).2.2.2 : Nat) : Int) = (0 : Int) := fun z => c_55 ((c_eq (nI_toInt (n := chT (acA x0).1 (acA x0).2.1 (acA x0).2.2.1 (acA x0).2.2.2) (by omega)) rfl).mpr z)
      refine lv_aload_n hx hb dL_law_63 rfl (lv_at hl 5 rfl) ?_
      refine lv_aload_n hx hb dL_law_64 rfl (lv_at hl 6 rfl) ?_
      refine kWi (va_runS (As := [.ref (a 0), .ref (b 0)]) (rest := []) ⟨hx, hb, hml, hown, hts⟩ (c_L_areAlike a b vo vp jo jp (ouW G oa of) hv hw hs (by omega) hjo hjp hP (hD.weaken (fun _ _ _ h => hLo _ h))) (va_cwS 2 hts gL_law_L_areAlike rfl rfl rfl (by decide +kernel) ⟨(Nat.le_of_ble_eq_true rfl), (Nat.le_of_ble_eq_true rfl)⟩) (preS hC hS hLo) rfl rfl hl.1 rfl (lv_room (Nat.le_of_ble_eq_true rfl)) dL_law_65 ⟨by show _ ≤ 600104; omega, by show _ ≤ 7301314; omega⟩) hP hD hS hA (fun _ => o3_fst) (fun r_58 u_59 H locs q_60 hP hD hS => ?_)
      have hP : PP G (oW G a vo u_59.1 ++ (oW G b vp u_59.2 ++ ouW G oa of)) H := hP
      have hD : va_D (lo G) (oW G a vo u_59.1 ++ (oW G b vp u_59.2 ++ ouW G oa of)) := hD
      refine topE (v' := nI 1) q_60.1 ?_
      refine lv_if_eq (tgt := 80) hx hb dL_law_68 (by decide) (fun c_61 => ?_) (fun c_61 => ?_)
      · have f_62 : (1 : Int) = (0 : Int) := (c_eq (nI_toInt (n := 1) (by omega)) rfl).mp c_61
        exfalso; omega
      · have f_63 : ¬ (1 : Int) = (0 : Int) := fun z => c_61 ((c_eq (nI_toInt (n := 1) (by omega)) rfl).mpr z)
        refine lv_aload_n hx hb dL_law_71 rfl (lv_at hl 5 rfl) ?_
        refine kPi (va_runV (As := []) (rest := []) ⟨hx, hb, hml, hown, hts⟩ (c_X8_undoCount a (jH u_59.1).1 (jH u_59.1).2.1 (oW_his (PP_l hP))) (cwV 0 hts gL_law_X8_undoCount rfl rfl rfl (by decide +kernel) ⟨(Nat.le_of_ble_eq_true rfl), (Nat.le_of_ble_eq_true rfl)⟩) (preV hC hS hLo (oW_obj (PP_l hP)) (ci := 7) (q0 := 0) rfl rfl) rfl rfl hl.1 rfl (lv_room (Nat.le_of_ble_eq_true rfl)) dL_law_72 ⟨by show _ ≤ 600104; omega, by show _ ≤ 7301314; omega⟩) hS (fun locs hS => ?_)
        refine topE (v' := nI ((jH jo).2.1)) (congrArg (fun z : HT => nI z.2.1) q_60.2.2.1) ?_
        refine lv_iload hx hb dL_law_75 (lv_at hl 2 rfl) ?_
        refine lv_icmp_eq (tgt := 82) hx hb dL_law_77 (by decide) (fun c_64 => ?_) (fun c_64 => ?_)
        · have f_65 := c_64
          refine lv_iload hx hb dL_law_82 (lv_at hl 1 rfl) ?_
          refine lv_if_ne (tgt := 149) hx hb dL_law_84 (by decide) (fun c_66 => ?_) (fun c_66 => ?_)
          · have f_67 : ¬ ((chT (acA x0).1 (acA x0).2.1 (acA x0).2.2.1 (acA x0).2.2.2 : Nat) : Int) = (0 : Int) := fun z => c_66 ((c_eq (nI_toInt (n := chT (acA x0).1 (acA x0).2.1 (acA x0).2.2.1 (acA x0).2.2.2) (by omega)) rfl).mpr z)
            refine W.widen (k := c0 + 2) (n := s0 + 12) (by omega) (by omega) ?_
            exact hk vo u_59.1 u_59.2 of (of 0) hv hpc (by omega) q_60.2.1 q_60.2.2.2.1 ⟨fun z => absurd z h0, fun _ => rfl⟩ H locs ls hP hD hS (lv_sub hl [4, 5, 6, 7, 8, 3, 1, 0] rfl)
          · have f_68 : ((chT (acA x0).1 (acA x0).2.1 (acA x0).2.2.1 (acA x0).2.2.2 : Nat) : Int) = (0 : Int) := (c_eq (nI_toInt (n := chT (acA x0).1 (acA x0).2.1 (acA x0).2.2.1 (acA x0).2.2.2) (by omega)) rfl).mp c_66
            exact absurd (show chT (acA x0).1 (acA x0).2.1 (acA x0).2.2.1 (acA x0).2.2.2 = 0 by omega) h0
        · have f_69 := c_64
          exact absurd rfl f_69
