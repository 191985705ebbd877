set_option maxHeartbeats 4000000 in
set_option maxRecDepth 100000 in
theorem whole_start {p : Program} {e : Env} {s : State} {m : MethodId} {below : List Frame} {meth : Method} {c : Code} (l : Launch) (hflags : l.flags = flags0) {b L : Nat} {xs : Nat → Int32} (hL : L ≤ 260) (C0 : lw_At p s m meth c b L xs) : W p l e room_1 s m #[Value.ref b] below meth c s.heap [] 0 0 (lw_Z below #[Value.ref b] s) (entryFrame m ([Value.ref b] : List Value).toArray 10) := by
  obtain ⟨G, hCX, hCI, hgB⟩ := lw_G C0
  obtain ⟨hx, hb9, hr, hml, hown, hts0, hX, hbl, hlk, hgv⟩ := C0
  have hb : c.code = cL_law := hb9
  have hts : ∀ w ∈ wsL_law, w.before #[Value.ref b] s = true := fun w hw => hts0 w (wsL_law_in w hw)
  have hfl : l.stackTraces = false := by unfold Launch.stackTraces; rw [hflags]; decide
  have hC := hCX.1
  have hLo : ∀ q, lo G q → lo G q := fun _ h => h
  have hA : ∀ q, s.heap.size ≤ q → lo G q := fun q h => by show gB G ≤ q; rw [hgB]; exact h
  have hLK : LK p l s m meth c b L xs G := ⟨hx, hb, hml, hown, hts, hX, hbl, hCX, hgB, hfl, hL⟩
  have hl := lv_entry [Value.ref b] (n := 10) (Nat.le_of_ble_eq_true rfl)
  rw [show lv_args 0 [Value.ref b] = [(0, .ref b)] from rfl] at hl
  rw [lg_entry_eq]
  generalize ((lg_sl [Value.ref b] ++ List.replicate (10 - (lg_sl [Value.ref b]).length) Slot.unset).toArray) = ls at hl ⊢
  have hS : va_S (lo G) s.heap s.heap [] := va_S.rf
  have hP : PP G [] s.heap := fun k q hk => by cases hk
  have hD : va_D (lo G) [] := ⟨fun i j p q hi => (by cases hi), fun k q hk => (by cases hk)⟩
  generalize ([] : List Loc) = locs at hS ⊢
  refine va_new (D := gD G) (cl := vwCl) (tys := tyl G) (ci := 7) (fs := [.null, .null, .null, .null, .null, .null, .null, .null]) (C := RX8) (T := TX8) (N := 8) hx hb hts inlX8 tyX8 tyX8_ok hown (hts (.classLink RL 9 RX8) (by decide +kernel)) (hts (.instantiable RX8 8) (by decide +kernel)) (hts (.initialized RX8) (by decide +kernel)) hC.K hP hD hS hA rfl (fun j hj => by rcases (show j = 0 ∨ j = 1 ∨ j = 2 ∨ j = 3 ∨ j = 4 ∨ j = 5 ∨ j = 6 ∨ j = 7 by omega) with rfl | rfl | rfl | rfl | rfl | rfl | rfl | rfl <;> rfl) (Nat.le_of_ble_eq_true rfl) (Nat.le_of_ble_eq_true rfl) dL_law_0 (fun q_1 H hP hD hS => ?_)
  have hP : PP G ([] ++ [(q_1, .inr (7, [.null, .null, .null, .null, .null, .null, .null, .null]))]) H := hP
  have hD : va_D (lo G) ([] ++ [(q_1, .inr (7, [.null, .null, .null, .null, .null, .null, .null, .null]))]) := hD
  refine lv_dup hx hb dL_law_3 rfl ?_
  refine kNewV (va_runI (As := []) (rest := [.ref q_1]) ⟨hx, hb, hml, hown, hts⟩ (c_X8_init q_1 (PP_r hP) ((pre_D (va_D_swap hD)).weaken (fun _ _ _ h => hLo _ h))) ⟨callB_of 0 hts gL_law_X8_init rfl rfl rfl (hts (.initialized RX8) (by decide +kernel)) (hts (.methodLink RL 115 yX8_init) (by decide +kernel)) (by decide +kernel) ⟨(Nat.le_of_ble_eq_true rfl), (Nat.le_of_ble_eq_true rfl)⟩, rfl, (hts (.instanceMethod yX8_init) (by decide +kernel))⟩ (preSI hCI hS hLo) rfl rfl hl.1 rfl (lv_room (Nat.le_of_ble_eq_true rfl)) dL_law_4 ⟨(Nat.le_of_ble_eq_true rfl), (Nat.le_of_ble_eq_true rfl)⟩) hP hD hS hA (fun u_2 H locs _ hP hD hS => ?_)
  have hP : PP G (oW G (fun i9 => if i9 = 0 then q_1 else u_2 (i9 - 1)) V0 J0) H := hP
  have hD : va_D (lo G) (oW G (fun i9 => if i9 = 0 then q_1 else u_2 (i9 - 1)) V0 J0) := hD
  refine lv_astore_n (lv' := [(1, .ref q_1), (0, .ref b)]) hx hb dL_law_7 rfl hl (by decide) rfl (fun ls hl => ?_)
  refine va_new (D := gD G) (cl := vwCl) (tys := tyl G) (ci := 7) (fs := [.null, .null, .null, .null, .null, .null, .null, .null]) (C := RX8) (T := TX8) (N := 8) hx hb hts inlX8 tyX8 tyX8_ok hown (hts (.classLink RL 9 RX8) (by decide +kernel)) (hts (.instantiable RX8 8) (by decide +kernel)) (hts (.initialized RX8) (by decide +kernel)) hC.K hP hD hS hA rfl (fun j hj => by rcases (show j = 0 ∨ j = 1 ∨ j = 2 ∨ j = 3 ∨ j = 4 ∨ j = 5 ∨ j = 6 ∨ j = 7 by omega) with rfl | rfl | rfl | rfl | rfl | rfl | rfl | rfl <;> rfl) (Nat.le_of_ble_eq_true rfl) (Nat.le_of_ble_eq_true rfl) dL_law_8 (fun q_3 H hP hD hS => ?_)
  have hP : PP G ((oW G (fun i9 => if i9 = 0 then q_1 else u_2 (i9 - 1)) V0 J0) ++ [(q_3, .inr (7, [.null, .null, .null, .null, .null, .null, .null, .null]))]) H := hP
  have hD : va_D (lo G) ((oW G (fun i9 => if i9 = 0 then q_1 else u_2 (i9 - 1)) V0 J0) ++ [(q_3, .inr (7, [.null, .null, .null, .null, .null, .null, .null, .null]))]) := hD
  refine lv_dup hx hb dL_law_11 rfl ?_
  refine kNewV (va_runI (As := []) (rest := [.ref q_3]) ⟨hx, hb, hml, hown, hts⟩ (c_X8_init q_3 (PP_r hP) ((pre_D (va_D_swap hD)).weaken (fun _ _ _ h => hLo _ h))) ⟨callB_of 0 hts gL_law_X8_init rfl rfl rfl (hts (.initialized RX8) (by decide +kernel)) (hts (.methodLink RL 115 yX8_init) (by decide +kernel)) (by decide +kernel) ⟨(Nat.le_of_ble_eq_true rfl), (Nat.le_of_ble_eq_true rfl)⟩, rfl, (hts (.instanceMethod yX8_init) (by decide +kernel))⟩ (preSI hCI hS hLo) rfl rfl hl.1 rfl (lv_room (Nat.le_of_ble_eq_true rfl)) dL_law_12 ⟨(Nat.le_of_ble_eq_true rfl), (Nat.le_of_ble_eq_true rfl)⟩) hP hD hS hA (fun u_4 H locs _ hP hD hS => ?_)
  have hP : PP G ((oW G (fun i9 => if i9 = 0 then q_1 else u_2 (i9 - 1)) V0 J0) ++ (oW G (fun i9 => if i9 = 0 then q_3 else u_4 (i9 - 1)) V0 J0)) H := hP
  have hD : va_D (lo G) ((oW G (fun i9 => if i9 = 0 then q_1 else u_2 (i9 - 1)) V0 J0) ++ (oW G (fun i9 => if i9 = 0 then q_3 else u_4 (i9 - 1)) V0 J0)) := hD
  refine lv_astore_n (lv' := [(2, .ref q_3), (1, .ref q_1), (0, .ref b)]) hx hb dL_law_15 rfl hl (by decide) rfl (fun ls hl => ?_)
  refine lv_iconst (v := nI 1) hx hb dL_law_16 (by decide) ?_
  refine gNewA (t0 := 0) (atype := .int) (n := nI 1) (cX := cI G) (ty := .int) (a0 := (1, .inl (fun _ => iI 0))) hx hb (hts (.arrayClass .int) (by decide +kernel)) rfl rfl hC.K hP hD hS hA (cell0_i 1) (by decide) (by decide) (by decide +kernel) (Nat.le_of_ble_eq_true rfl) (Nat.le_of_ble_eq_true rfl) dL_law_17 (fun q_5 H hP hD hS => ?_)
  have hP : PP G ((oW G (fun i9 => if i9 = 0 then q_1 else u_2 (i9 - 1)) V0 J0) ++ ((oW G (fun i9 => if i9 = 0 then q_3 else u_4 (i9 - 1)) V0 J0) ++ ouW G q_5 (fun _ => iI 0))) H := by rw [← List.append_assoc]; exact hP
  have hD : va_D (lo G) ((oW G (fun i9 => if i9 = 0 then q_1 else u_2 (i9 - 1)) V0 J0) ++ ((oW G (fun i9 => if i9 = 0 then q_3 else u_4 (i9 - 1)) V0 J0) ++ ouW G q_5 (fun _ => iI 0))) := by rw [← List.append_assoc]; exact hD
  refine lv_astore_n (lv' := [(3, .ref q_5), (2, .ref q_3), (1, .ref q_1), (0, .ref b)]) hx hb dL_law_19 rfl hl (by decide) rfl (fun ls hl => ?_)
  refine lv_iconst (v := nI 0) hx hb dL_law_20 (by decide) ?_
  refine lv_istore (lv' := [(4, .int (nI 0)), (3, .ref q_5), (2, .ref q_3), (1, .ref q_1), (0, .ref b)]) hx hb dL_law_21 hl (by decide) rfl (fun ls hl => ?_)
  refine lw_loop hLK (a := fun i9 => if i9 = 0 then q_1 else u_2 (i9 - 1)) (b := fun i9 => if i9 = 0 then q_3 else u_4 (i9 - 1)) (oa := q_5) (fun vo vp jo jp of e9 H locs ls hP hD hS hl hv hpc hpi => ?_) 52 0 _ _ H locs ls rfl (Nat.le_of_ble_eq_true rfl) (Nat.le_of_ble_eq_true rfl) ⟨V0, V0, J0, J0, fun _ => iI 0, hP, hD, hS, lv_sub hl [4, 3, 2, 1, 0] rfl, V0_ok.1, V0_ok.2.1, V0_ok.1, SIM_rf V0, Nat.zero_le 0, V0_ok.2.2, V0_ok.2.2⟩
  refine lv_aload_n hx hb dL_law_262 rfl (lv_at hl 1 rfl) ?_
  refine kPi (va_runS (As := [.ref q_1]) (rest := []) ⟨hx, hb, hml, hown, hts⟩ (c_L_arePicturesSo (fun i9 => if i9 = 0 then q_1 else u_2 (i9 - 1)) vo jo hv hpc hpi (PP_l hP)) (va_cwS 1 hts gL_law_L_arePicturesSo rfl rfl rfl (by decide +kernel) ⟨(Nat.le_of_ble_eq_true rfl), (Nat.le_of_ble_eq_true rfl)⟩) (preS hC hS hLo) rfl rfl hl.1 rfl (lv_room (Nat.le_of_ble_eq_true rfl)) dL_law_263 ⟨(Nat.le_of_ble_eq_true rfl), (Nat.le_of_ble_eq_true rfl)⟩) hS (fun locs hS => ?_)
  refine va_forget (fun q hq => by rw [← hgB]; exact hS.2.2 q hq) ?_
  exact lw_ret hx hb9 hr hlk dL_law_266
