set_option maxHeartbeats 4000000 in
set_option maxRecDepth 100000 in
theorem c_L_draw_1 {l : Launch} {G : GT} {H0 : Heap} (a : Nat → Nat) (v : SVT) (mo ki : Nat → Nat) (pr df : Nat → Int) (co : Int32) (bi : Nat) (g9 : Nat → Int32) (lr : Nat) (bf : Nat → Int) (tn : Nat → Nat) (ln nx ct : Nat) (hv : Nat → SVT) (v0 : SVT) (k0 : Nat) (v1 : SVT) (k1 : Nat) (oa : Nat) (of : Nat → Int64) (p x0 : Int32) (hbad : p.toInt < 0 ∨ 64 ≤ p.toInt) (hfl : l.stackTraces = false) (hP0 : PP G (xW G a v mo ki pr df co bi g9 lr bf tn ln nx ct hv v0 k0 v1 k1 ++ [(oa, .inl (cL G, 1, .inr (.inl of)))]) H0) (hB0 : va_D (lo G) (xW G a v mo ki pr df co bi g9 lr bf tn ln nx ct hv v0 k0 v1 k1 ++ [(oa, .inl (cL G, 1, .inr (.inl of)))])) : Met l yL_draw wsL_draw ({ frames := 8, cells := 1, slots := 6, locals := 124 } : Room) (pcX G [.ref (a 0), .int (p), .int (x0), .ref oa] H0) (qMi G (fun (r : Int32) (u : Unit) => r = nI 1) (fun (u : Unit) => xW G a v mo ki pr df co bi g9 lr bf tn ln nx ct hv v0 k0 v1 k1 ++ [(oa, .inl (cL G, 1, .inr (.inl of)))]) (xW G a v mo ki pr df co bi g9 lr bf tn ln nx ct hv v0 k0 v1 k1 ++ [(oa, .inl (cL G, 1, .inr (.inl of)))]) H0) 1 6 (va_A (xW G a v mo ki pr df co bi g9 lr bf tn ln nx ct hv v0 k0 v1 k1 ++ [(oa, .inl (cL G, 1, .inr (.inl of)))]) H0.size) := by
  refine enterHX (cc := cL_draw) (maxL := 5) (ret := some .int) (own := RL) (lv := [(0, .ref (a 0)), (1, .int (p)), (2, .int (x0)), (3, .ref oa)]) (by decide) rfl rfl rfl (Nat.le_of_ble_eq_true rfl) ?_
  intro pg ev s m below meth c hx hb hr hts hown hlocks hml htab hH hCX ls hl
  subst hH
  have hC := hCX.1
  have hLo := va_freeB hB0 hC.2.2.2.1
  have hD := hB0.self (sz := s.heap.size)
  have hS : va_S (va_A (xW G a v mo ki pr df co bi g9 lr bf tn ln nx ct hv v0 k0 v1 k1 ++ [(oa, .inl (cL G, 1, .inr (.inl of)))]) s.heap.size) s.heap s.heap [] := va_S.rf
  unfold qMi
  generalize hAe : va_A (xW G a v mo ki pr df co bi g9 lr bf tn ln nx ct hv v0 k0 v1 k1 ++ [(oa, .inl (cL G, 1, .inr (.inl of)))]) s.heap.size = A at hD hLo hS ⊢
  have hA : ∀ q, s.heap.size ≤ q → A q := fun q h => by rw [← hAe]; exact Or.inr h
  generalize ([] : List Loc) = locs at hS ⊢
  have hP := hP0
  refine lv_aload_n hx hb dL_draw_0 rfl (lv_at hl 3 rfl) ?_
  refine lv_iconst (v := nI (0)) hx hb dL_draw_1 (by decide) ?_
  refine lv_aload_n hx hb dL_draw_2 rfl (lv_at hl 0 rfl) ?_
  refine lv_iload_n hx hb dL_draw_3 rfl (lv_at hl 1 rfl) ?_
  refine lv_iload_n hx hb dL_draw_4 rfl (lv_at hl 2 rfl) ?_
  refine tCatch (hh := [(0, 10, 13, 13), (0, 10, 17, 15)]) (own := RL) (name := "java/lang/IndexOutOfBoundsException") (vx_runV (As := [.int (p), .int (x0)]) (rest := [.int (nI (0)), .ref oa]) ⟨hx, hb, hml, hown, hts⟩ (c_X8_draw_x1 (a 0) p x0 (by first | assumption | omega) hfl) (cwV 2 hts gL_draw_X8_draw rfl rfl rfl (by decide +kernel) ⟨Nat.le_of_ble_eq_true rfl, Nat.le_of_ble_eq_true rfl⟩) (preVX hCX hS hLo hP (ci := 7) (q0 := 0) rfl rfl) rfl rfl hl.1 rfl (lv_room (Nat.le_of_ble_eq_true rfl)) dL_draw_5 ⟨Nat.le_of_ble_eq_true rfl, Nat.le_of_ble_eq_true rfl⟩) hP hS hown htab [] ⟨0, 10, 13, 13⟩ [⟨0, 10, 17, 15⟩] rfl (fun z hz => nomatch hz) (by decide) (by decide) (hts (.classLink RL 13 "java/lang/IndexOutOfBoundsException") (by decide +kernel)) (hC.nest 80 rfl) (fun q_1 H locs hP hS => ?_)
  refine lv_astore (lv' := [(4, .ref q_1), (0, .ref (a 0)), (1, .int (p)), (2, .int (x0)), (3, .ref oa)]) hx hb dL_draw_13 hl (by decide) rfl (fun ls hl => ?_)
  refine lv_iconst (v := nI (1)) hx hb dL_draw_15 (by decide) ?_
  exact xMi (G := G) (post := (fun (r : Int32) (u : Unit) => r = nI 1)) (w1 := (fun (u : Unit) => xW G a v mo ki pr df co bi g9 lr bf tn ln nx ct hv v0 k0 v1 k1 ++ [(oa, .inl (cL G, 1, .inr (.inl of)))])) (()) hx hb hr hlocks hP hS (by exact rfl) (by exact rfl) dL_draw_16

set_option maxHeartbeats 4000000 in
set_option maxRecDepth 100000 in
theorem c_L_fill_1 {l : Launch} {G : GT} {H0 : Heap} (a : Nat → Nat) (v : SVT) (mo ki : Nat → Nat) (pr df : Nat → Int) (co : Int32) (bi : Nat) (g9 : Nat → Int32) (lr : Nat) (bf : Nat → Int) (tn : Nat → Nat) (ln nx ct : Nat) (hv : Nat → SVT) (v0 : SVT) (k0 : Nat) (v1 : SVT) (k1 : Nat) (oa : Nat) (of : Nat → Int64) (p x0 x1 x2 : Int32) (hbad : p.toInt < 0 ∨ 64 ≤ p.toInt) (hfl : l.stackTraces = false) (hP0 : PP G (xW G a v mo ki pr df co bi g9 lr bf tn ln nx ct hv v0 k0 v1 k1 ++ [(oa, .inl (cL G, 1, .inr (.inl of)))]) H0) (hB0 : va_D (lo G) (xW G a v mo ki pr df co bi g9 lr bf tn ln nx ct hv v0 k0 v1 k1 ++ [(oa, .inl (cL G, 1, .inr (.inl of)))])) : Met l yL_fill wsL_fill ({ frames := 8, cells := 1, slots := 6, locals := 126 } : Room) (pcX G [.ref (a 0), .int (p), .int (x0), .int (x1), .int (x2), .ref oa] H0) (qMi G (fun (r : Int32) (u : Unit) => r = nI 1) (fun (u : Unit) => xW G a v mo ki pr df co bi g9 lr bf tn ln nx ct hv v0 k0 v1 k1 ++ [(oa, .inl (cL G, 1, .inr (.inl of)))]) (xW G a v mo ki pr df co bi g9 lr bf tn ln nx ct hv v0 k0 v1 k1 ++ [(oa, .inl (cL G, 1, .inr (.inl of)))]) H0) 1 6 (va_A (xW G a v mo ki pr df co bi g9 lr bf tn ln nx ct hv v0 k0 v1 k1 ++ [(oa, .inl (cL G, 1, .inr (.inl of)))]) H0.size) := by
  refine enterHX (cc := cL_fill) (maxL := 7) (ret := some .int) (own := RL) (lv := [(0, .ref (a 0)), (1, .int (p)), (2, .int (x0)), (3, .int (x1)), (4, .int (x2)), (5, .ref oa)]) (by decide) rfl rfl rfl (Nat.le_of_ble_eq_true rfl) ?_
  intro pg ev s m below meth c hx hb hr hts hown hlocks hml htab hH hCX ls hl
  subst hH
  have hC := hCX.1
  have hLo := va_freeB hB0 hC.2.2.2.1
  have hD := hB0.self (sz := s.heap.size)
  have hS : va_S (va_A (xW G a v mo ki pr df co bi g9 lr bf tn ln nx ct hv v0 k0 v1 k1 ++ [(oa, .inl (cL G, 1, .inr (.inl of)))]) s.heap.size) s.heap s.heap [] := va_S.rf
  unfold qMi
  generalize hAe : va_A (xW G a v mo ki pr df co bi g9 lr bf tn ln nx ct hv v0 k0 v1 k1 ++ [(oa, .inl (cL G, 1, .inr (.inl of)))]) s.heap.size = A at hD hLo hS ⊢
  have hA : ∀ q, s.heap.size ≤ q → A q := fun q h => by rw [← hAe]; exact Or.inr h
  generalize ([] : List Loc) = locs at hS ⊢
  have hP := hP0
  refine lv_aload hx hb dL_fill_0 (lv_at hl 5 rfl) ?_
  refine lv_iconst (v := nI (0)) hx hb dL_fill_2 (by decide) ?_
  refine lv_aload_n hx hb dL_fill_3 rfl (lv_at hl 0 rfl) ?_
  refine lv_iload_n hx hb dL_fill_4 rfl (lv_at hl 1 rfl) ?_
  refine lv_iload_n hx hb dL_fill_5 rfl (lv_at hl 2 rfl) ?_
  refine lv_iload_n hx hb dL_fill_6 rfl (lv_at hl 3 rfl) ?_
  refine lv_iload hx hb dL_fill_7 (lv_at hl 4 rfl) ?_
  refine tCatch (hh := [(0, 14, 17, 13), (0, 14, 21, 15)]) (own := RL) (name := "java/lang/IndexOutOfBoundsException") (vx_runV (As := [.int (p), .int (x0), .int (x1), .int (x2)]) (rest := [.int (nI (0)), .ref oa]) ⟨hx, hb, hml, hown, hts⟩ (c_X8_fill_x1 (a 0) p x0 x1 x2 (by first | assumption | omega) hfl) (cwV 4 hts gL_fill_X8_fill rfl rfl rfl (by decide +kernel) ⟨Nat.le_of_ble_eq_true rfl, Nat.le_of_ble_eq_true rfl⟩) (preVX hCX hS hLo hP (ci := 7) (q0 := 0) rfl rfl) rfl rfl hl.1 rfl (lv_room (Nat.le_of_ble_eq_true rfl)) dL_fill_9 ⟨Nat.le_of_ble_eq_true rfl, Nat.le_of_ble_eq_true rfl⟩) hP hS hown htab [] ⟨0, 14, 17, 13⟩ [⟨0, 14, 21, 15⟩] rfl (fun z hz => nomatch hz) (by decide) (by decide) (hts (.classLink RL 13 "java/lang/IndexOutOfBoundsException") (by decide +kernel)) (hC.nest 80 rfl) (fun q_1 H locs hP hS => ?_)
  refine lv_astore (lv' := [(6, .ref q_1), (0, .ref (a 0)), (1, .int (p)), (2, .int (x0)), (3, .int (x1)), (4, .int (x2)), (5, .ref oa)]) hx hb dL_fill_17 hl (by decide) rfl (fun ls hl => ?_)
  refine lv_iconst (v := nI (1)) hx hb dL_fill_19 (by decide) ?_
  exact xMi (G := G) (post := (fun (r : Int32) (u : Unit) => r = nI 1)) (w1 := (fun (u : Unit) => xW G a v mo ki pr df co bi g9 lr bf tn ln nx ct hv v0 k0 v1 k1 ++ [(oa, .inl (cL G, 1, .inr (.inl of)))])) (()) hx hb hr hlocks hP hS (by exact rfl) (by exact rfl) dL_fill_20

set_option maxHeartbeats 4000000 in
set_option maxRecDepth 100000 in
theorem c_L_drawnAt_1 {l : Launch} {G : GT} {H0 : Heap} (a : Nat → Nat) (v : SVT) (mo ki : Nat → Nat) (pr df : Nat → Int) (co : Int32) (bi : Nat) (g9 : Nat → Int32) (lr : Nat) (bf : Nat → Int) (tn : Nat → Nat) (ln nx ct : Nat) (hv : Nat → SVT) (v0 : SVT) (k0 : Nat) (v1 : SVT) (k1 : Nat) (oa : Nat) (of : Nat → Int64) (p : Int32) (hbad : p.toInt < 0 ∨ 64 ≤ p.toInt) (hfl : l.stackTraces = false) (hP0 : PP G (xW G a v mo ki pr df co bi g9 lr bf tn ln nx ct hv v0 k0 v1 k1 ++ [(oa, .inl (cL G, 1, .inr (.inl of)))]) H0) (hB0 : va_D (lo G) (xW G a v mo ki pr df co bi g9 lr bf tn ln nx ct hv v0 k0 v1 k1 ++ [(oa, .inl (cL G, 1, .inr (.inl of)))])) : Met l yL_drawnAt wsL_drawnAt ({ frames := 8, cells := 1, slots := 6, locals := 123 } : Room) (pcX G [.ref (a 0), .int (p), .ref oa] H0) (qMi G (fun (r : Int32) (u : Unit) => r = nI 1) (fun (u : Unit) => xW G a v mo ki pr df co bi g9 lr bf tn ln nx ct hv v0 k0 v1 k1 ++ [(oa, .inl (cL G, 1, .inr (.inl of)))]) (xW G a v mo ki pr df co bi g9 lr bf tn ln nx ct hv v0 k0 v1 k1 ++ [(oa, .inl (cL G, 1, .inr (.inl of)))]) H0) 1 6 (va_A (xW G a v mo ki pr df co bi g9 lr bf tn ln nx ct hv v0 k0 v1 k1 ++ [(oa, .inl (cL G, 1, .inr (.inl of)))]) H0.size) := by
  refine enterHX (cc := cL_drawnAt) (maxL := 4) (ret := some .int) (own := RL) (lv := [(0, .ref (a 0)), (1, .int (p)), (2, .ref oa)]) (by decide) rfl rfl rfl (Nat.le_of_ble_eq_true rfl) ?_
  intro pg ev s m below meth c hx hb hr hts hown hlocks hml htab hH hCX ls hl
  subst hH
  have hC := hCX.1
  have hLo := va_freeB hB0 hC.2.2.2.1
  have hD := hB0.self (sz := s.heap.size)
  have hS : va_S (va_A (xW G a v mo ki pr df co bi g9 lr bf tn ln nx ct hv v0 k0 v1 k1 ++ [(oa, .inl (cL G, 1, .inr (.inl of)))]) s.heap.size) s.heap s.heap [] := va_S.rf
  unfold qMi
  generalize hAe : va_A (xW G a v mo ki pr df co bi g9 lr bf tn ln nx ct hv v0 k0 v1 k1 ++ [(oa, .inl (cL G, 1, .inr (.inl of)))]) s.heap.size = A at hD hLo hS ⊢
  have hA : ∀ q, s.heap.size ≤ q → A q := fun q h => by rw [← hAe]; exact Or.inr h
  generalize ([] : List Loc) = locs at hS ⊢
  have hP := hP0
  refine lv_aload_n hx hb dL_drawnAt_0 rfl (lv_at hl 2 rfl) ?_
  refine lv_iconst (v := nI (0)) hx hb dL_drawnAt_1 (by decide) ?_
  refine lv_aload_n hx hb dL_drawnAt_2 rfl (lv_at hl 0 rfl) ?_
  refine lv_iload_n hx hb dL_drawnAt_3 rfl (lv_at hl 1 rfl) ?_
  refine tCatch (hh := [(0, 9, 12, 13)]) (own := RL) (name := "java/lang/IndexOutOfBoundsException") (vx_runV (As := [.int (p)]) (rest := [.int (nI (0)), .ref oa]) ⟨hx, hb, hml, hown, hts⟩ (c_X8_drawnAt_x1 (a 0) p (by first | assumption | omega) hfl) (cwV 1 hts gL_drawnAt_X8_drawnAt rfl rfl rfl (by decide +kernel) ⟨Nat.le_of_ble_eq_true rfl, Nat.le_of_ble_eq_true rfl⟩) (preVX hCX hS hLo hP (ci := 7) (q0 := 0) rfl rfl) rfl rfl hl.1 rfl (lv_room (Nat.le_of_ble_eq_true rfl)) dL_drawnAt_4 ⟨Nat.le_of_ble_eq_true rfl, Nat.le_of_ble_eq_true rfl⟩) hP hS hown htab [] ⟨0, 9, 12, 13⟩ [] rfl (fun z hz => nomatch hz) (by decide) (by decide) (hts (.classLink RL 13 "java/lang/IndexOutOfBoundsException") (by decide +kernel)) (hC.nest 80 rfl) (fun q_1 H locs hP hS => ?_)
  refine lv_astore_n (lv' := [(3, .ref q_1), (0, .ref (a 0)), (1, .int (p)), (2, .ref oa)]) hx hb dL_drawnAt_12 rfl hl (by decide) rfl (fun ls hl => ?_)
  refine lv_iconst (v := nI (1)) hx hb dL_drawnAt_13 (by decide) ?_
  exact xMi (G := G) (post := (fun (r : Int32) (u : Unit) => r = nI 1)) (w1 := (fun (u : Unit) => xW G a v mo ki pr df co bi g9 lr bf tn ln nx ct hv v0 k0 v1 k1 ++ [(oa, .inl (cL G, 1, .inr (.inl of)))])) (()) hx hb hr hlocks hP hS (by exact rfl) (by exact rfl) dL_drawnAt_14

set_option maxHeartbeats 4000000 in
set_option maxRecDepth 100000 in
theorem c_L_sentAt_1 {l : Launch} {G : GT} {H0 : Heap} (a : Nat → Nat) (v : SVT) (mo ki : Nat → Nat) (pr df : Nat → Int) (co : Int32) (bi : Nat) (g9 : Nat → Int32) (lr : Nat) (bf : Nat → Int) (tn : Nat → Nat) (ln nx ct : Nat) (hv : Nat → SVT) (v0 : SVT) (k0 : Nat) (v1 : SVT) (k1 : Nat) (oa : Nat) (of : Nat → Int64) (p : Int32) (hbad : p.toInt < 0 ∨ 64 ≤ p.toInt) (hfl : l.stackTraces = false) (hP0 : PP G (xW G a v mo ki pr df co bi g9 lr bf tn ln nx ct hv v0 k0 v1 k1 ++ [(oa, .inl (cL G, 1, .inr (.inl of)))]) H0) (hB0 : va_D (lo G) (xW G a v mo ki pr df co bi g9 lr bf tn ln nx ct hv v0 k0 v1 k1 ++ [(oa, .inl (cL G, 1, .inr (.inl of)))])) : Met l yL_sentAt wsL_sentAt ({ frames := 8, cells := 1, slots := 6, locals := 123 } : Room) (pcX G [.ref (a 0), .int (p), .ref oa] H0) (qMi G (fun (r : Int32) (u : Unit) => r = nI 1) (fun (u : Unit) => xW G a v mo ki pr df co bi g9 lr bf tn ln nx ct hv v0 k0 v1 k1 ++ [(oa, .inl (cL G, 1, .inr (.inl of)))]) (xW G a v mo ki pr df co bi g9 lr bf tn ln nx ct hv v0 k0 v1 k1 ++ [(oa, .inl (cL G, 1, .inr (.inl of)))]) H0) 1 6 (va_A (xW G a v mo ki pr df co bi g9 lr bf tn ln nx ct hv v0 k0 v1 k1 ++ [(oa, .inl (cL G, 1, .inr (.inl of)))]) H0.size) := by
  refine enterHX (cc := cL_sentAt) (maxL := 4) (ret := some .int) (own := RL) (lv := [(0, .ref (a 0)), (1, .int (p)), (2, .ref oa)]) (by decide) rfl rfl rfl (Nat.le_of_ble_eq_true rfl) ?_
  intro pg ev s m below meth c hx hb hr hts hown hlocks hml htab hH hCX ls hl
  subst hH
  have hC := hCX.1
  have hLo := va_freeB hB0 hC.2.2.2.1
  have hD := hB0.self (sz := s.heap.size)
  have hS : va_S (va_A (xW G a v mo ki pr df co bi g9 lr bf tn ln nx ct hv v0 k0 v1 k1 ++ [(oa, .inl (cL G, 1, .inr (.inl of)))]) s.heap.size) s.heap s.heap [] := va_S.rf
  unfold qMi
  generalize hAe : va_A (xW G a v mo ki pr df co bi g9 lr bf tn ln nx ct hv v0 k0 v1 k1 ++ [(oa, .inl (cL G, 1, .inr (.inl of)))]) s.heap.size = A at hD hLo hS ⊢
  have hA : ∀ q, s.heap.size ≤ q → A q := fun q h => by rw [← hAe]; exact Or.inr h
  generalize ([] : List Loc) = locs at hS ⊢
  have hP := hP0
  refine lv_aload_n hx hb dL_sentAt_0 rfl (lv_at hl 2 rfl) ?_
  refine lv_iconst (v := nI (0)) hx hb dL_sentAt_1 (by decide) ?_
  refine lv_aload_n hx hb dL_sentAt_2 rfl (lv_at hl 0 rfl) ?_
  refine lv_iload_n hx hb dL_sentAt_3 rfl (lv_at hl 1 rfl) ?_
  refine tCatch (hh := [(0, 9, 12, 13)]) (own := RL) (name := "java/lang/IndexOutOfBoundsException") (vx_runV (As := [.int (p)]) (rest := [.int (nI (0)), .ref oa]) ⟨hx, hb, hml, hown, hts⟩ (c_X8_sentAt_x1 (a 0) p (by first | assumption | omega) hfl) (cwV 1 hts gL_sentAt_X8_sentAt rfl rfl rfl (by decide +kernel) ⟨Nat.le_of_ble_eq_true rfl, Nat.le_of_ble_eq_true rfl⟩) (preVX hCX hS hLo hP (ci := 7) (q0 := 0) rfl rfl) rfl rfl hl.1 rfl (lv_room (Nat.le_of_ble_eq_true rfl)) dL_sentAt_4 ⟨Nat.le_of_ble_eq_true rfl, Nat.le_of_ble_eq_true rfl⟩) hP hS hown htab [] ⟨0, 9, 12, 13⟩ [] rfl (fun z hz => nomatch hz) (by decide) (by decide) (hts (.classLink RL 13 "java/lang/IndexOutOfBoundsException") (by decide +kernel)) (hC.nest 80 rfl) (fun q_1 H locs hP hS => ?_)
  refine lv_astore_n (lv' := [(3, .ref q_1), (0, .ref (a 0)), (1, .int (p)), (2, .ref oa)]) hx hb dL_sentAt_12 rfl hl (by decide) rfl (fun ls hl => ?_)
  refine lv_iconst (v := nI (1)) hx hb dL_sentAt_13 (by decide) ?_
  exact xMi (G := G) (post := (fun (r : Int32) (u : Unit) => r = nI 1)) (w1 := (fun (u : Unit) => xW G a v mo ki pr df co bi g9 lr bf tn ln nx ct hv v0 k0 v1 k1 ++ [(oa, .inl (cL G, 1, .inr (.inl of)))])) (()) hx hb hr hlocks hP hS (by exact rfl) (by exact rfl) dL_sentAt_14

set_option maxHeartbeats 4000000 in
set_option maxRecDepth 100000 in
theorem c_L_receivedAt_1 {l : Launch} {G : GT} {H0 : Heap} (a : Nat → Nat) (v : SVT) (mo ki : Nat → Nat) (pr df : Nat → Int) (co : Int32) (bi : Nat) (g9 : Nat → Int32) (lr : Nat) (bf : Nat → Int) (tn : Nat → Nat) (ln nx ct : Nat) (hv : Nat → SVT) (v0 : SVT) (k0 : Nat) (v1 : SVT) (k1 : Nat) (oa : Nat) (of : Nat → Int64) (p : Int32) (hbad : p.toInt < 0 ∨ 64 ≤ p.toInt) (hfl : l.stackTraces = false) (hP0 : PP G (xW G a v mo ki pr df co bi g9 lr bf tn ln nx ct hv v0 k0 v1 k1 ++ [(oa, .inl (cL G, 1, .inr (.inl of)))]) H0) (hB0 : va_D (lo G) (xW G a v mo ki pr df co bi g9 lr bf tn ln nx ct hv v0 k0 v1 k1 ++ [(oa, .inl (cL G, 1, .inr (.inl of)))])) : Met l yL_receivedAt wsL_receivedAt ({ frames := 8, cells := 1, slots := 6, locals := 123 } : Room) (pcX G [.ref (a 0), .int (p), .ref oa] H0) (qMi G (fun (r : Int32) (u : Unit) => r = nI 1) (fun (u : Unit) => xW G a v mo ki pr df co bi g9 lr bf tn ln nx ct hv v0 k0 v1 k1 ++ [(oa, .inl (cL G, 1, .inr (.inl of)))]) (xW G a v mo ki pr df co bi g9 lr bf tn ln nx ct hv v0 k0 v1 k1 ++ [(oa, .inl (cL G, 1, .inr (.inl of)))]) H0) 1 6 (va_A (xW G a v mo ki pr df co bi g9 lr bf tn ln nx ct hv v0 k0 v1 k1 ++ [(oa, .inl (cL G, 1, .inr (.inl of)))]) H0.size) := by
  refine enterHX (cc := cL_receivedAt) (maxL := 4) (ret := some .int) (own := RL) (lv := [(0, .ref (a 0)), (1, .int (p)), (2, .ref oa)]) (by decide) rfl rfl rfl (Nat.le_of_ble_eq_true rfl) ?_
  intro pg ev s m below meth c hx hb hr hts hown hlocks hml htab hH hCX ls hl
  subst hH
  have hC := hCX.1
  have hLo := va_freeB hB0 hC.2.2.2.1
  have hD := hB0.self (sz := s.heap.size)
  have hS : va_S (va_A (xW G a v mo ki pr df co bi g9 lr bf tn ln nx ct hv v0 k0 v1 k1 ++ [(oa, .inl (cL G, 1, .inr (.inl of)))]) s.heap.size) s.heap s.heap [] := va_S.rf
  unfold qMi
  generalize hAe : va_A (xW G a v mo ki pr df co bi g9 lr bf tn ln nx ct hv v0 k0 v1 k1 ++ [(oa, .inl (cL G, 1, .inr (.inl of)))]) s.heap.size = A at hD hLo hS ⊢
  have hA : ∀ q, s.heap.size ≤ q → A q := fun q h => by rw [← hAe]; exact Or.inr h
  generalize ([] : List Loc) = locs at hS ⊢
  have hP := hP0
  refine lv_aload_n hx hb dL_receivedAt_0 rfl (lv_at hl 2 rfl) ?_
  refine lv_iconst (v := nI (0)) hx hb dL_receivedAt_1 (by decide) ?_
  refine lv_aload_n hx hb dL_receivedAt_2 rfl (lv_at hl 0 rfl) ?_
  refine lv_iload_n hx hb dL_receivedAt_3 rfl (lv_at hl 1 rfl) ?_
  refine tCatch (hh := [(0, 9, 12, 13)]) (own := RL) (name := "java/lang/IndexOutOfBoundsException") (vx_runV (As := [.int (p)]) (rest := [.int (nI (0)), .ref oa]) ⟨hx, hb, hml, hown, hts⟩ (c_X8_receivedAt_x1 (a 0) p (by first | assumption | omega) hfl) (cwV 1 hts gL_receivedAt_X8_receivedAt rfl rfl rfl (by decide +kernel) ⟨Nat.le_of_ble_eq_true rfl, Nat.le_of_ble_eq_true rfl⟩) (preVX hCX hS hLo hP (ci := 7) (q0 := 0) rfl rfl) rfl rfl hl.1 rfl (lv_room (Nat.le_of_ble_eq_true rfl)) dL_receivedAt_4 ⟨Nat.le_of_ble_eq_true rfl, Nat.le_of_ble_eq_true rfl⟩) hP hS hown htab [] ⟨0, 9, 12, 13⟩ [] rfl (fun z hz => nomatch hz) (by decide) (by decide) (hts (.classLink RL 13 "java/lang/IndexOutOfBoundsException") (by decide +kernel)) (hC.nest 80 rfl) (fun q_1 H locs hP hS => ?_)
  refine lv_astore_n (lv' := [(3, .ref q_1), (0, .ref (a 0)), (1, .int (p)), (2, .ref oa)]) hx hb dL_receivedAt_12 rfl hl (by decide) rfl (fun ls hl => ?_)
  refine lv_iconst (v := nI (1)) hx hb dL_receivedAt_13 (by decide) ?_
  exact xMi (G := G) (post := (fun (r : Int32) (u : Unit) => r = nI 1)) (w1 := (fun (u : Unit) => xW G a v mo ki pr df co bi g9 lr bf tn ln nx ct hv v0 k0 v1 k1 ++ [(oa, .inl (cL G, 1, .inr (.inl of)))])) (()) hx hb hr hlocks hP hS (by exact rfl) (by exact rfl) dL_receivedAt_14

set_option maxHeartbeats 4000000 in
set_option maxRecDepth 100000 in
theorem c_L_distance_1 {l : Launch} {G : GT} {H0 : Heap} (a : Nat → Nat) (v : SVT) (mo ki : Nat → Nat) (pr df : Nat → Int) (co : Int32) (bi : Nat) (g9 : Nat → Int32) (lr : Nat) (bf : Nat → Int) (tn : Nat → Nat) (ln nx ct : Nat) (hv : Nat → SVT) (v0 : SVT) (k0 : Nat) (v1 : SVT) (k1 : Nat) (oa : Nat) (of : Nat → Int64) (p x0 : Int32) (hbad : p.toInt < 0 ∨ 4 ≤ p.toInt) (hfl : l.stackTraces = false) (hP0 : PP G (xW G a v mo ki pr df co bi g9 lr bf tn ln nx ct hv v0 k0 v1 k1 ++ [(oa, .inl (cL G, 1, .inr (.inl of)))]) H0) (hB0 : va_D (lo G) (xW G a v mo ki pr df co bi g9 lr bf tn ln nx ct hv v0 k0 v1 k1 ++ [(oa, .inl (cL G, 1, .inr (.inl of)))])) : Met l yL_distance wsL_distance ({ frames := 8, cells := 1, slots := 6, locals := 124 } : Room) (pcX G [.ref (a 0), .int (p), .int (x0), .ref oa] H0) (qMi G (fun (r : Int32) (u : Unit) => r = nI 1) (fun (u : Unit) => xW G a v mo ki pr df co bi g9 lr bf tn ln nx ct hv v0 k0 v1 k1 ++ [(oa, .inl (cL G, 1, .inr (.inl of)))]) (xW G a v mo ki pr df co bi g9 lr bf tn ln nx ct hv v0 k0 v1 k1 ++ [(oa, .inl (cL G, 1, .inr (.inl of)))]) H0) 1 6 (va_A (xW G a v mo ki pr df co bi g9 lr bf tn ln nx ct hv v0 k0 v1 k1 ++ [(oa, .inl (cL G, 1, .inr (.inl of)))]) H0.size) := by
  refine enterHX (cc := cL_distance) (maxL := 5) (ret := some .int) (own := RL) (lv := [(0, .ref (a 0)), (1, .int (p)), (2, .int (x0)), (3, .ref oa)]) (by decide) rfl rfl rfl (Nat.le_of_ble_eq_true rfl) ?_
  intro pg ev s m below meth c hx hb hr hts hown hlocks hml htab hH hCX ls hl
  subst hH
  have hC := hCX.1
  have hLo := va_freeB hB0 hC.2.2.2.1
  have hD := hB0.self (sz := s.heap.size)
  have hS : va_S (va_A (xW G a v mo ki pr df co bi g9 lr bf tn ln nx ct hv v0 k0 v1 k1 ++ [(oa, .inl (cL G, 1, .inr (.inl of)))]) s.heap.size) s.heap s.heap [] := va_S.rf
  unfold qMi
  generalize hAe : va_A (xW G a v mo ki pr df co bi g9 lr bf tn ln nx ct hv v0 k0 v1 k1 ++ [(oa, .inl (cL G, 1, .inr (.inl of)))]) s.heap.size = A at hD hLo hS ⊢
  have hA : ∀ q, s.heap.size ≤ q → A q := fun q h => by rw [← hAe]; exact Or.inr h
  generalize ([] : List Loc) = locs at hS ⊢
  have hP := hP0
  refine lv_aload_n hx hb dL_distance_0 rfl (lv_at hl 3 rfl) ?_
  refine lv_iconst (v := nI (0)) hx hb dL_distance_1 (by decide) ?_
  refine lv_aload_n hx hb dL_distance_2 rfl (lv_at hl 0 rfl) ?_
  refine lv_iload_n hx hb dL_distance_3 rfl (lv_at hl 1 rfl) ?_
  refine lv_iload_n hx hb dL_distance_4 rfl (lv_at hl 2 rfl) ?_
  refine tCatch (hh := [(0, 10, 13, 13)]) (own := RL) (name := "java/lang/IndexOutOfBoundsException") (vx_runV (As := [.int (p), .int (x0)]) (rest := [.int (nI (0)), .ref oa]) ⟨hx, hb, hml, hown, hts⟩ (c_X8_distance_x1 (a 0) p x0 (by first | assumption | omega) hfl) (cwV 2 hts gL_distance_X8_distance rfl rfl rfl (by decide +kernel) ⟨Nat.le_of_ble_eq_true rfl, Nat.le_of_ble_eq_true rfl⟩) (preVX hCX hS hLo hP (ci := 7) (q0 := 0) rfl rfl) rfl rfl hl.1 rfl (lv_room (Nat.le_of_ble_eq_true rfl)) dL_distance_5 ⟨Nat.le_of_ble_eq_true rfl, Nat.le_of_ble_eq_true rfl⟩) hP hS hown htab [] ⟨0, 10, 13, 13⟩ [] rfl (fun z hz => nomatch hz) (by decide) (by decide) (hts (.classLink RL 13 "java/lang/IndexOutOfBoundsException") (by decide +kernel)) (hC.nest 80 rfl) (fun q_1 H locs hP hS => ?_)
  refine lv_astore (lv' := [(4, .ref q_1), (0, .ref (a 0)), (1, .int (p)), (2, .int (x0)), (3, .ref oa)]) hx hb dL_distance_13 hl (by decide) rfl (fun ls hl => ?_)
  refine lv_iconst (v := nI (1)) hx hb dL_distance_15 (by decide) ?_
  exact xMi (G := G) (post := (fun (r : Int32) (u : Unit) => r = nI 1)) (w1 := (fun (u : Unit) => xW G a v mo ki pr df co bi g9 lr bf tn ln nx ct hv v0 k0 v1 k1 ++ [(oa, .inl (cL G, 1, .inr (.inl of)))])) (()) hx hb hr hlocks hP hS (by exact rfl) (by exact rfl) dL_distance_16

set_option maxHeartbeats 4000000 in
set_option maxRecDepth 100000 in
theorem c_L_bestMove_1 {l : Launch} {G : GT} {H0 : Heap} (a : Nat → Nat) (v : SVT) (mo ki : Nat → Nat) (pr df : Nat → Int) (co : Int32) (bi : Nat) (g9 : Nat → Int32) (lr : Nat) (bf : Nat → Int) (tn : Nat → Nat) (ln nx ct : Nat) (hv : Nat → SVT) (v0 : SVT) (k0 : Nat) (v1 : SVT) (k1 : Nat) (oa : Nat) (of : Nat → Int64) (p : Int32) (hbad : p.toInt < 0 ∨ 4 ≤ p.toInt) (hfl : l.stackTraces = false) (hP0 : PP G (xW G a v mo ki pr df co bi g9 lr bf tn ln nx ct hv v0 k0 v1 k1 ++ [(oa, .inl (cL G, 1, .inr (.inl of)))]) H0) (hB0 : va_D (lo G) (xW G a v mo ki pr df co bi g9 lr bf tn ln nx ct hv v0 k0 v1 k1 ++ [(oa, .inl (cL G, 1, .inr (.inl of)))])) : Met l yL_bestMove wsL_bestMove ({ frames := 8, cells := 1, slots := 6, locals := 123 } : Room) (pcX G [.ref (a 0), .int (p), .ref oa] H0) (qMi G (fun (r : Int32) (u : Unit) => r = nI 1) (fun (u : Unit) => xW G a v mo ki pr df co bi g9 lr bf tn ln nx ct hv v0 k0 v1 k1 ++ [(oa, .inl (cL G, 1, .inr (.inl of)))]) (xW G a v mo ki pr df co bi g9 lr bf tn ln nx ct hv v0 k0 v1 k1 ++ [(oa, .inl (cL G, 1, .inr (.inl of)))]) H0) 1 6 (va_A (xW G a v mo ki pr df co bi g9 lr bf tn ln nx ct hv v0 k0 v1 k1 ++ [(oa, .inl (cL G, 1, .inr (.inl of)))]) H0.size) := by
  refine enterHX (cc := cL_bestMove) (maxL := 4) (ret := some .int) (own := RL) (lv := [(0, .ref (a 0)), (1, .int (p)), (2, .ref oa)]) (by decide) rfl rfl rfl (Nat.le_of_ble_eq_true rfl) ?_
  intro pg ev s m below meth c hx hb hr hts hown hlocks hml htab hH hCX ls hl
  subst hH
  have hC := hCX.1
  have hLo := va_freeB hB0 hC.2.2.2.1
  have hD := hB0.self (sz := s.heap.size)
  have hS : va_S (va_A (xW G a v mo ki pr df co bi g9 lr bf tn ln nx ct hv v0 k0 v1 k1 ++ [(oa, .inl (cL G, 1, .inr (.inl of)))]) s.heap.size) s.heap s.heap [] := va_S.rf
  unfold qMi
  generalize hAe : va_A (xW G a v mo ki pr df co bi g9 lr bf tn ln nx ct hv v0 k0 v1 k1 ++ [(oa, .inl (cL G, 1, .inr (.inl of)))]) s.heap.size = A at hD hLo hS ⊢
  have hA : ∀ q, s.heap.size ≤ q → A q := fun q h => by rw [← hAe]; exact Or.inr h
  generalize ([] : List Loc) = locs at hS ⊢
  have hP := hP0
  refine lv_aload_n hx hb dL_bestMove_0 rfl (lv_at hl 2 rfl) ?_
  refine lv_iconst (v := nI (0)) hx hb dL_bestMove_1 (by decide) ?_
  refine lv_aload_n hx hb dL_bestMove_2 rfl (lv_at hl 0 rfl) ?_
  refine lv_iload_n hx hb dL_bestMove_3 rfl (lv_at hl 1 rfl) ?_
  refine tCatch (hh := [(0, 9, 12, 13)]) (own := RL) (name := "java/lang/IndexOutOfBoundsException") (vx_runV (As := [.int (p)]) (rest := [.int (nI (0)), .ref oa]) ⟨hx, hb, hml, hown, hts⟩ (c_X8_bestMove_x1 (a 0) p (by first | assumption | omega) hfl) (cwV 1 hts gL_bestMove_X8_bestMove rfl rfl rfl (by decide +kernel) ⟨Nat.le_of_ble_eq_true rfl, Nat.le_of_ble_eq_true rfl⟩) (preVX hCX hS hLo hP (ci := 7) (q0 := 0) rfl rfl) rfl rfl hl.1 rfl (lv_room (Nat.le_of_ble_eq_true rfl)) dL_bestMove_4 ⟨Nat.le_of_ble_eq_true rfl, Nat.le_of_ble_eq_true rfl⟩) hP hS hown htab [] ⟨0, 9, 12, 13⟩ [] rfl (fun z hz => nomatch hz) (by decide) (by decide) (hts (.classLink RL 13 "java/lang/IndexOutOfBoundsException") (by decide +kernel)) (hC.nest 80 rfl) (fun q_1 H locs hP hS => ?_)
  refine lv_astore_n (lv' := [(3, .ref q_1), (0, .ref (a 0)), (1, .int (p)), (2, .ref oa)]) hx hb dL_bestMove_12 rfl hl (by decide) rfl (fun ls hl => ?_)
  refine lv_iconst (v := nI (1)) hx hb dL_bestMove_13 (by decide) ?_
  exact xMi (G := G) (post := (fun (r : Int32) (u : Unit) => r = nI 1)) (w1 := (fun (u : Unit) => xW G a v mo ki pr df co bi g9 lr bf tn ln nx ct hv v0 k0 v1 k1 ++ [(oa, .inl (cL G, 1, .inr (.inl of)))])) (()) hx hb hr hlocks hP hS (by exact rfl) (by exact rfl) dL_bestMove_14

set_option maxHeartbeats 4000000 in
set_option maxRecDepth 100000 in
theorem c_L_bestMoveByStopping_1 {l : Launch} {G : GT} {H0 : Heap} (a : Nat → Nat) (v : SVT) (mo ki : Nat → Nat) (pr df : Nat → Int) (co : Int32) (bi : Nat) (g9 : Nat → Int32) (lr : Nat) (bf : Nat → Int) (tn : Nat → Nat) (ln nx ct : Nat) (hv : Nat → SVT) (v0 : SVT) (k0 : Nat) (v1 : SVT) (k1 : Nat) (oa : Nat) (of : Nat → Int64) (p : Int32) (hbad : p.toInt < 0 ∨ 4 ≤ p.toInt) (hfl : l.stackTraces = false) (hP0 : PP G (xW G a v mo ki pr df co bi g9 lr bf tn ln nx ct hv v0 k0 v1 k1 ++ [(oa, .inl (cL G, 1, .inr (.inl of)))]) H0) (hB0 : va_D (lo G) (xW G a v mo ki pr df co bi g9 lr bf tn ln nx ct hv v0 k0 v1 k1 ++ [(oa, .inl (cL G, 1, .inr (.inl of)))])) : Met l yL_bestMoveByStopping wsL_bestMoveByStopping ({ frames := 8, cells := 1, slots := 6, locals := 123 } : Room) (pcX G [.ref (a 0), .int (p), .ref oa] H0) (qMi G (fun (r : Int32) (u : Unit) => r = nI 1) (fun (u : Unit) => xW G a v mo ki pr df co bi g9 lr bf tn ln nx ct hv v0 k0 v1 k1 ++ [(oa, .inl (cL G, 1, .inr (.inl of)))]) (xW G a v mo ki pr df co bi g9 lr bf tn ln nx ct hv v0 k0 v1 k1 ++ [(oa, .inl (cL G, 1, .inr (.inl of)))]) H0) 1 6 (va_A (xW G a v mo ki pr df co bi g9 lr bf tn ln nx ct hv v0 k0 v1 k1 ++ [(oa, .inl (cL G, 1, .inr (.inl of)))]) H0.size) := by
  refine enterHX (cc := cL_bestMoveByStopping) (maxL := 4) (ret := some .int) (own := RL) (lv := [(0, .ref (a 0)), (1, .int (p)), (2, .ref oa)]) (by decide) rfl rfl rfl (Nat.le_of_ble_eq_true rfl) ?_
  intro pg ev s m below meth c hx hb hr hts hown hlocks hml htab hH hCX ls hl
  subst hH
  have hC := hCX.1
  have hLo := va_freeB hB0 hC.2.2.2.1
  have hD := hB0.self (sz := s.heap.size)
  have hS : va_S (va_A (xW G a v mo ki pr df co bi g9 lr bf tn ln nx ct hv v0 k0 v1 k1 ++ [(oa, .inl (cL G, 1, .inr (.inl of)))]) s.heap.size) s.heap s.heap [] := va_S.rf
  unfold qMi
  generalize hAe : va_A (xW G a v mo ki pr df co bi g9 lr bf tn ln nx ct hv v0 k0 v1 k1 ++ [(oa, .inl (cL G, 1, .inr (.inl of)))]) s.heap.size = A at hD hLo hS ⊢
  have hA : ∀ q, s.heap.size ≤ q → A q := fun q h => by rw [← hAe]; exact Or.inr h
  generalize ([] : List Loc) = locs at hS ⊢
  have hP := hP0
  refine lv_aload_n hx hb dL_bestMoveByStopping_0 rfl (lv_at hl 2 rfl) ?_
  refine lv_iconst (v := nI (0)) hx hb dL_bestMoveByStopping_1 (by decide) ?_
  refine lv_aload_n hx hb dL_bestMoveByStopping_2 rfl (lv_at hl 0 rfl) ?_
  refine lv_iload_n hx hb dL_bestMoveByStopping_3 rfl (lv_at hl 1 rfl) ?_
  refine tCatch (hh := [(0, 9, 12, 13)]) (own := RL) (name := "java/lang/IndexOutOfBoundsException") (vx_runV (As := [.int (p)]) (rest := [.int (nI (0)), .ref oa]) ⟨hx, hb, hml, hown, hts⟩ (c_X8_bestMoveByStopping_x1 (a 0) p (by first | assumption | omega) hfl) (cwV 1 hts gL_bestMoveByStopping_X8_bestMoveByStopping rfl rfl rfl (by decide +kernel) ⟨Nat.le_of_ble_eq_true rfl, Nat.le_of_ble_eq_true rfl⟩) (preVX hCX hS hLo hP (ci := 7) (q0 := 0) rfl rfl) rfl rfl hl.1 rfl (lv_room (Nat.le_of_ble_eq_true rfl)) dL_bestMoveByStopping_4 ⟨Nat.le_of_ble_eq_true rfl, Nat.le_of_ble_eq_true rfl⟩) hP hS hown htab [] ⟨0, 9, 12, 13⟩ [] rfl (fun z hz => nomatch hz) (by decide) (by decide) (hts (.classLink RL 13 "java/lang/IndexOutOfBoundsException") (by decide +kernel)) (hC.nest 80 rfl) (fun q_1 H locs hP hS => ?_)
  refine lv_astore_n (lv' := [(3, .ref q_1), (0, .ref (a 0)), (1, .int (p)), (2, .ref oa)]) hx hb dL_bestMoveByStopping_12 rfl hl (by decide) rfl (fun ls hl => ?_)
  refine lv_iconst (v := nI (1)) hx hb dL_bestMoveByStopping_13 (by decide) ?_
  exact xMi (G := G) (post := (fun (r : Int32) (u : Unit) => r = nI 1)) (w1 := (fun (u : Unit) => xW G a v mo ki pr df co bi g9 lr bf tn ln nx ct hv v0 k0 v1 k1 ++ [(oa, .inl (cL G, 1, .inr (.inl of)))])) (()) hx hb hr hlocks hP hS (by exact rfl) (by exact rfl) dL_bestMoveByStopping_14

set_option maxHeartbeats 4000000 in
set_option maxRecDepth 100000 in
theorem c_L_equalMoves_1 {l : Launch} {G : GT} {H0 : Heap} (a : Nat → Nat) (v : SVT) (mo ki : Nat → Nat) (pr df : Nat → Int) (co : Int32) (bi : Nat) (g9 : Nat → Int32) (lr : Nat) (bf : Nat → Int) (tn : Nat → Nat) (ln nx ct : Nat) (hv : Nat → SVT) (v0 : SVT) (k0 : Nat) (v1 : SVT) (k1 : Nat) (oa : Nat) (of : Nat → Int64) (p : Int32) (hbad : p.toInt < 0 ∨ 4 ≤ p.toInt) (hfl : l.stackTraces = false) (hP0 : PP G (xW G a v mo ki pr df co bi g9 lr bf tn ln nx ct hv v0 k0 v1 k1 ++ [(oa, .inl (cL G, 1, .inr (.inl of)))]) H0) (hB0 : va_D (lo G) (xW G a v mo ki pr df co bi g9 lr bf tn ln nx ct hv v0 k0 v1 k1 ++ [(oa, .inl (cL G, 1, .inr (.inl of)))])) : Met l yL_equalMoves wsL_equalMoves ({ frames := 8, cells := 1, slots := 6, locals := 123 } : Room) (pcX G [.ref (a 0), .int (p), .ref oa] H0) (qMi G (fun (r : Int32) (u : Unit) => r = nI 1) (fun (u : Unit) => xW G a v mo ki pr df co bi g9 lr bf tn ln nx ct hv v0 k0 v1 k1 ++ [(oa, .inl (cL G, 1, .inr (.inl of)))]) (xW G a v mo ki pr df co bi g9 lr bf tn ln nx ct hv v0 k0 v1 k1 ++ [(oa, .inl (cL G, 1, .inr (.inl of)))]) H0) 1 6 (va_A (xW G a v mo ki pr df co bi g9 lr bf tn ln nx ct hv v0 k0 v1 k1 ++ [(oa, .inl (cL G, 1, .inr (.inl of)))]) H0.size) := by
  refine enterHX (cc := cL_equalMoves) (maxL := 4) (ret := some .int) (own := RL) (lv := [(0, .ref (a 0)), (1, .int (p)), (2, .ref oa)]) (by decide) rfl rfl rfl (Nat.le_of_ble_eq_true rfl) ?_
  intro pg ev s m below meth c hx hb hr hts hown hlocks hml htab hH hCX ls hl
  subst hH
  have hC := hCX.1
  have hLo := va_freeB hB0 hC.2.2.2.1
  have hD := hB0.self (sz := s.heap.size)
  have hS : va_S (va_A (xW G a v mo ki pr df co bi g9 lr bf tn ln nx ct hv v0 k0 v1 k1 ++ [(oa, .inl (cL G, 1, .inr (.inl of)))]) s.heap.size) s.heap s.heap [] := va_S.rf
  unfold qMi
  generalize hAe : va_A (xW G a v mo ki pr df co bi g9 lr bf tn ln nx ct hv v0 k0 v1 k1 ++ [(oa, .inl (cL G, 1, .inr (.inl of)))]) s.heap.size = A at hD hLo hS ⊢
  have hA : ∀ q, s.heap.size ≤ q → A q := fun q h => by rw [← hAe]; exact Or.inr h
  generalize ([] : List Loc) = locs at hS ⊢
  have hP := hP0
  refine lv_aload_n hx hb dL_equalMoves_0 rfl (lv_at hl 2 rfl) ?_
  refine lv_iconst (v := nI (0)) hx hb dL_equalMoves_1 (by decide) ?_
  refine lv_aload_n hx hb dL_equalMoves_2 rfl (lv_at hl 0 rfl) ?_
  refine lv_iload_n hx hb dL_equalMoves_3 rfl (lv_at hl 1 rfl) ?_
  refine tCatch (hh := [(0, 9, 12, 13)]) (own := RL) (name := "java/lang/IndexOutOfBoundsException") (vx_runV (As := [.int (p)]) (rest := [.int (nI (0)), .ref oa]) ⟨hx, hb, hml, hown, hts⟩ (c_X8_equalMoves_x1 (a 0) p (by first | assumption | omega) hfl) (cwV 1 hts gL_equalMoves_X8_equalMoves rfl rfl rfl (by decide +kernel) ⟨Nat.le_of_ble_eq_true rfl, Nat.le_of_ble_eq_true rfl⟩) (preVX hCX hS hLo hP (ci := 7) (q0 := 0) rfl rfl) rfl rfl hl.1 rfl (lv_room (Nat.le_of_ble_eq_true rfl)) dL_equalMoves_4 ⟨Nat.le_of_ble_eq_true rfl, Nat.le_of_ble_eq_true rfl⟩) hP hS hown htab [] ⟨0, 9, 12, 13⟩ [] rfl (fun z hz => nomatch hz) (by decide) (by decide) (hts (.classLink RL 13 "java/lang/IndexOutOfBoundsException") (by decide +kernel)) (hC.nest 80 rfl) (fun q_1 H locs hP hS => ?_)
  refine lv_astore_n (lv' := [(3, .ref q_1), (0, .ref (a 0)), (1, .int (p)), (2, .ref oa)]) hx hb dL_equalMoves_12 rfl hl (by decide) rfl (fun ls hl => ?_)
  refine lv_iconst (v := nI (1)) hx hb dL_equalMoves_13 (by decide) ?_
  exact xMi (G := G) (post := (fun (r : Int32) (u : Unit) => r = nI 1)) (w1 := (fun (u : Unit) => xW G a v mo ki pr df co bi g9 lr bf tn ln nx ct hv v0 k0 v1 k1 ++ [(oa, .inl (cL G, 1, .inr (.inl of)))])) (()) hx hb hr hlocks hP hS (by exact rfl) (by exact rfl) dL_equalMoves_14

set_option maxHeartbeats 4000000 in
set_option maxRecDepth 100000 in
theorem c_L_kindWith_1 {l : Launch} {G : GT} {H0 : Heap} (a : Nat → Nat) (v : SVT) (mo ki : Nat → Nat) (pr df : Nat → Int) (co : Int32) (bi : Nat) (g9 : Nat → Int32) (lr : Nat) (bf : Nat → Int) (tn : Nat → Nat) (ln nx ct : Nat) (hv : Nat → SVT) (v0 : SVT) (k0 : Nat) (v1 : SVT) (k1 : Nat) (oa : Nat) (of : Nat → Int64) (p x0 : Int32) (hbad : p.toInt < 0 ∨ 4 ≤ p.toInt) (hfl : l.stackTraces = false) (hP0 : PP G (xW G a v mo ki pr df co bi g9 lr bf tn ln nx ct hv v0 k0 v1 k1 ++ [(oa, .inl (cL G, 1, .inr (.inl of)))]) H0) (hB0 : va_D (lo G) (xW G a v mo ki pr df co bi g9 lr bf tn ln nx ct hv v0 k0 v1 k1 ++ [(oa, .inl (cL G, 1, .inr (.inl of)))])) : Met l yL_kindWith wsL_kindWith ({ frames := 8, cells := 1, slots := 6, locals := 124 } : Room) (pcX G [.ref (a 0), .int (p), .int (x0), .ref oa] H0) (qMi G (fun (r : Int32) (u : Unit) => r = nI 1) (fun (u : Unit) => xW G a v mo ki pr df co bi g9 lr bf tn ln nx ct hv v0 k0 v1 k1 ++ [(oa, .inl (cL G, 1, .inr (.inl of)))]) (xW G a v mo ki pr df co bi g9 lr bf tn ln nx ct hv v0 k0 v1 k1 ++ [(oa, .inl (cL G, 1, .inr (.inl of)))]) H0) 1 6 (va_A (xW G a v mo ki pr df co bi g9 lr bf tn ln nx ct hv v0 k0 v1 k1 ++ [(oa, .inl (cL G, 1, .inr (.inl of)))]) H0.size) := by
  refine enterHX (cc := cL_kindWith) (maxL := 5) (ret := some .int) (own := RL) (lv := [(0, .ref (a 0)), (1, .int (p)), (2, .int (x0)), (3, .ref oa)]) (by decide) rfl rfl rfl (Nat.le_of_ble_eq_true rfl) ?_
  intro pg ev s m below meth c hx hb hr hts hown hlocks hml htab hH hCX ls hl
  subst hH
  have hC := hCX.1
  have hLo := va_freeB hB0 hC.2.2.2.1
  have hD := hB0.self (sz := s.heap.size)
  have hS : va_S (va_A (xW G a v mo ki pr df co bi g9 lr bf tn ln nx ct hv v0 k0 v1 k1 ++ [(oa, .inl (cL G, 1, .inr (.inl of)))]) s.heap.size) s.heap s.heap [] := va_S.rf
  unfold qMi
  generalize hAe : va_A (xW G a v mo ki pr df co bi g9 lr bf tn ln nx ct hv v0 k0 v1 k1 ++ [(oa, .inl (cL G, 1, .inr (.inl of)))]) s.heap.size = A at hD hLo hS ⊢
  have hA : ∀ q, s.heap.size ≤ q → A q := fun q h => by rw [← hAe]; exact Or.inr h
  generalize ([] : List Loc) = locs at hS ⊢
  have hP := hP0
  refine lv_aload_n hx hb dL_kindWith_0 rfl (lv_at hl 3 rfl) ?_
  refine lv_iconst (v := nI (0)) hx hb dL_kindWith_1 (by decide) ?_
  refine lv_aload_n hx hb dL_kindWith_2 rfl (lv_at hl 0 rfl) ?_
  refine lv_iload_n hx hb dL_kindWith_3 rfl (lv_at hl 1 rfl) ?_
  refine lv_iload_n hx hb dL_kindWith_4 rfl (lv_at hl 2 rfl) ?_
  refine tCatch (hh := [(0, 10, 13, 13), (0, 10, 17, 15)]) (own := RL) (name := "java/lang/IndexOutOfBoundsException") (vx_runV (As := [.int (p), .int (x0)]) (rest := [.int (nI (0)), .ref oa]) ⟨hx, hb, hml, hown, hts⟩ (c_X8_kindWith_x1 (a 0) p x0 (by first | assumption | omega) hfl) (cwV 2 hts gL_kindWith_X8_kindWith rfl rfl rfl (by decide +kernel) ⟨Nat.le_of_ble_eq_true rfl, Nat.le_of_ble_eq_true rfl⟩) (preVX hCX hS hLo hP (ci := 7) (q0 := 0) rfl rfl) rfl rfl hl.1 rfl (lv_room (Nat.le_of_ble_eq_true rfl)) dL_kindWith_5 ⟨Nat.le_of_ble_eq_true rfl, Nat.le_of_ble_eq_true rfl⟩) hP hS hown htab [] ⟨0, 10, 13, 13⟩ [⟨0, 10, 17, 15⟩] rfl (fun z hz => nomatch hz) (by decide) (by decide) (hts (.classLink RL 13 "java/lang/IndexOutOfBoundsException") (by decide +kernel)) (hC.nest 80 rfl) (fun q_1 H locs hP hS => ?_)
  refine lv_astore (lv' := [(4, .ref q_1), (0, .ref (a 0)), (1, .int (p)), (2, .int (x0)), (3, .ref oa)]) hx hb dL_kindWith_13 hl (by decide) rfl (fun ls hl => ?_)
  refine lv_iconst (v := nI (1)) hx hb dL_kindWith_15 (by decide) ?_
  exact xMi (G := G) (post := (fun (r : Int32) (u : Unit) => r = nI 1)) (w1 := (fun (u : Unit) => xW G a v mo ki pr df co bi g9 lr bf tn ln nx ct hv v0 k0 v1 k1 ++ [(oa, .inl (cL G, 1, .inr (.inl of)))])) (()) hx hb hr hlocks hP hS (by exact rfl) (by exact rfl) dL_kindWith_16

set_option maxHeartbeats 4000000 in
set_option maxRecDepth 100000 in
theorem c_L_bitsWith_1 {l : Launch} {G : GT} {H0 : Heap} (a : Nat → Nat) (v : SVT) (mo ki : Nat → Nat) (pr df : Nat → Int) (co : Int32) (bi : Nat) (g9 : Nat → Int32) (lr : Nat) (bf : Nat → Int) (tn : Nat → Nat) (ln nx ct : Nat) (hv : Nat → SVT) (v0 : SVT) (k0 : Nat) (v1 : SVT) (k1 : Nat) (oa : Nat) (of : Nat → Int64) (p x0 : Int32) (hbad : p.toInt < 0 ∨ 4 ≤ p.toInt) (hfl : l.stackTraces = false) (hP0 : PP G (xW G a v mo ki pr df co bi g9 lr bf tn ln nx ct hv v0 k0 v1 k1 ++ [(oa, .inl (cL G, 1, .inr (.inl of)))]) H0) (hB0 : va_D (lo G) (xW G a v mo ki pr df co bi g9 lr bf tn ln nx ct hv v0 k0 v1 k1 ++ [(oa, .inl (cL G, 1, .inr (.inl of)))])) : Met l yL_bitsWith wsL_bitsWith ({ frames := 8, cells := 1, slots := 6, locals := 124 } : Room) (pcX G [.ref (a 0), .int (p), .int (x0), .ref oa] H0) (qMi G (fun (r : Int32) (u : Unit) => r = nI 1) (fun (u : Unit) => xW G a v mo ki pr df co bi g9 lr bf tn ln nx ct hv v0 k0 v1 k1 ++ [(oa, .inl (cL G, 1, .inr (.inl of)))]) (xW G a v mo ki pr df co bi g9 lr bf tn ln nx ct hv v0 k0 v1 k1 ++ [(oa, .inl (cL G, 1, .inr (.inl of)))]) H0) 1 6 (va_A (xW G a v mo ki pr df co bi g9 lr bf tn ln nx ct hv v0 k0 v1 k1 ++ [(oa, .inl (cL G, 1, .inr (.inl of)))]) H0.size) := by
  refine enterHX (cc := cL_bitsWith) (maxL := 5) (ret := some .int) (own := RL) (lv := [(0, .ref (a 0)), (1, .int (p)), (2, .int (x0)), (3, .ref oa)]) (by decide) rfl rfl rfl (Nat.le_of_ble_eq_true rfl) ?_
  intro pg ev s m below meth c hx hb hr hts hown hlocks hml htab hH hCX ls hl
  subst hH
  have hC := hCX.1
  have hLo := va_freeB hB0 hC.2.2.2.1
  have hD := hB0.self (sz := s.heap.size)
  have hS : va_S (va_A (xW G a v mo ki pr df co bi g9 lr bf tn ln nx ct hv v0 k0 v1 k1 ++ [(oa, .inl (cL G, 1, .inr (.inl of)))]) s.heap.size) s.heap s.heap [] := va_S.rf
  unfold qMi
  generalize hAe : va_A (xW G a v mo ki pr df co bi g9 lr bf tn ln nx ct hv v0 k0 v1 k1 ++ [(oa, .inl (cL G, 1, .inr (.inl of)))]) s.heap.size = A at hD hLo hS ⊢
  have hA : ∀ q, s.heap.size ≤ q → A q := fun q h => by rw [← hAe]; exact Or.inr h
  generalize ([] : List Loc) = locs at hS ⊢
  have hP := hP0
  refine lv_aload_n hx hb dL_bitsWith_0 rfl (lv_at hl 3 rfl) ?_
  refine lv_iconst (v := nI (0)) hx hb dL_bitsWith_1 (by decide) ?_
  refine lv_aload_n hx hb dL_bitsWith_2 rfl (lv_at hl 0 rfl) ?_
  refine lv_iload_n hx hb dL_bitsWith_3 rfl (lv_at hl 1 rfl) ?_
  refine lv_iload_n hx hb dL_bitsWith_4 rfl (lv_at hl 2 rfl) ?_
  refine tCatch (hh := [(0, 10, 13, 13), (0, 10, 17, 15)]) (own := RL) (name := "java/lang/IndexOutOfBoundsException") (vx_runV (As := [.int (p), .int (x0)]) (rest := [.int (nI (0)), .ref oa]) ⟨hx, hb, hml, hown, hts⟩ (c_X8_bitsWith_x1 (a 0) p x0 (by first | assumption | omega) hfl) (cwV 2 hts gL_bitsWith_X8_bitsWith rfl rfl rfl (by decide +kernel) ⟨Nat.le_of_ble_eq_true rfl, Nat.le_of_ble_eq_true rfl⟩) (preVX hCX hS hLo hP (ci := 7) (q0 := 0) rfl rfl) rfl rfl hl.1 rfl (lv_room (Nat.le_of_ble_eq_true rfl)) dL_bitsWith_5 ⟨Nat.le_of_ble_eq_true rfl, Nat.le_of_ble_eq_true rfl⟩) hP hS hown htab [] ⟨0, 10, 13, 13⟩ [⟨0, 10, 17, 15⟩] rfl (fun z hz => nomatch hz) (by decide) (by decide) (hts (.classLink RL 13 "java/lang/IndexOutOfBoundsException") (by decide +kernel)) (hC.nest 80 rfl) (fun q_1 H locs hP hS => ?_)
  refine lv_astore (lv' := [(4, .ref q_1), (0, .ref (a 0)), (1, .int (p)), (2, .int (x0)), (3, .ref oa)]) hx hb dL_bitsWith_13 hl (by decide) rfl (fun ls hl => ?_)
  refine lv_iconst (v := nI (1)) hx hb dL_bitsWith_15 (by decide) ?_
  exact xMi (G := G) (post := (fun (r : Int32) (u : Unit) => r = nI 1)) (w1 := (fun (u : Unit) => xW G a v mo ki pr df co bi g9 lr bf tn ln nx ct hv v0 k0 v1 k1 ++ [(oa, .inl (cL G, 1, .inr (.inl of)))])) (()) hx hb hr hlocks hP hS (by exact rfl) (by exact rfl) dL_bitsWith_16

set_option maxHeartbeats 4000000 in
set_option maxRecDepth 100000 in
theorem c_L_bitsByWriting_1 {l : Launch} {G : GT} {H0 : Heap} (a : Nat → Nat) (v : SVT) (mo ki : Nat → Nat) (pr df : Nat → Int) (co : Int32) (bi : Nat) (g9 : Nat → Int32) (lr : Nat) (bf : Nat → Int) (tn : Nat → Nat) (ln nx ct : Nat) (hv : Nat → SVT) (v0 : SVT) (k0 : Nat) (v1 : SVT) (k1 : Nat) (oa : Nat) (of : Nat → Int64) (p x0 : Int32) (hbad : p.toInt < 0 ∨ 4 ≤ p.toInt) (hfl : l.stackTraces = false) (hP0 : PP G (xW G a v mo ki pr df co bi g9 lr bf tn ln nx ct hv v0 k0 v1 k1 ++ [(oa, .inl (cL G, 1, .inr (.inl of)))]) H0) (hB0 : va_D (lo G) (xW G a v mo ki pr df co bi g9 lr bf tn ln nx ct hv v0 k0 v1 k1 ++ [(oa, .inl (cL G, 1, .inr (.inl of)))])) : Met l yL_bitsByWriting wsL_bitsByWriting ({ frames := 8, cells := 1, slots := 6, locals := 124 } : Room) (pcX G [.ref (a 0), .int (p), .int (x0), .ref oa] H0) (qMi G (fun (r : Int32) (u : Unit) => r = nI 1) (fun (u : Unit) => xW G a v mo ki pr df co bi g9 lr bf tn ln nx ct hv v0 k0 v1 k1 ++ [(oa, .inl (cL G, 1, .inr (.inl of)))]) (xW G a v mo ki pr df co bi g9 lr bf tn ln nx ct hv v0 k0 v1 k1 ++ [(oa, .inl (cL G, 1, .inr (.inl of)))]) H0) 1 6 (va_A (xW G a v mo ki pr df co bi g9 lr bf tn ln nx ct hv v0 k0 v1 k1 ++ [(oa, .inl (cL G, 1, .inr (.inl of)))]) H0.size) := by
  refine enterHX (cc := cL_bitsByWriting) (maxL := 5) (ret := some .int) (own := RL) (lv := [(0, .ref (a 0)), (1, .int (p)), (2, .int (x0)), (3, .ref oa)]) (by decide) rfl rfl rfl (Nat.le_of_ble_eq_true rfl) ?_
  intro pg ev s m below meth c hx hb hr hts hown hlocks hml htab hH hCX ls hl
  subst hH
  have hC := hCX.1
  have hLo := va_freeB hB0 hC.2.2.2.1
  have hD := hB0.self (sz := s.heap.size)
  have hS : va_S (va_A (xW G a v mo ki pr df co bi g9 lr bf tn ln nx ct hv v0 k0 v1 k1 ++ [(oa, .inl (cL G, 1, .inr (.inl of)))]) s.heap.size) s.heap s.heap [] := va_S.rf
  unfold qMi
  generalize hAe : va_A (xW G a v mo ki pr df co bi g9 lr bf tn ln nx ct hv v0 k0 v1 k1 ++ [(oa, .inl (cL G, 1, .inr (.inl of)))]) s.heap.size = A at hD hLo hS ⊢
  have hA : ∀ q, s.heap.size ≤ q → A q := fun q h => by rw [← hAe]; exact Or.inr h
  generalize ([] : List Loc) = locs at hS ⊢
  have hP := hP0
  refine lv_aload_n hx hb dL_bitsByWriting_0 rfl (lv_at hl 3 rfl) ?_
  refine lv_iconst (v := nI (0)) hx hb dL_bitsByWriting_1 (by decide) ?_
  refine lv_aload_n hx hb dL_bitsByWriting_2 rfl (lv_at hl 0 rfl) ?_
  refine lv_iload_n hx hb dL_bitsByWriting_3 rfl (lv_at hl 1 rfl) ?_
  refine lv_iload_n hx hb dL_bitsByWriting_4 rfl (lv_at hl 2 rfl) ?_
  refine tCatch (hh := [(0, 10, 13, 13), (0, 10, 17, 15)]) (own := RL) (name := "java/lang/IndexOutOfBoundsException") (vx_runV (As := [.int (p), .int (x0)]) (rest := [.int (nI (0)), .ref oa]) ⟨hx, hb, hml, hown, hts⟩ (c_X8_bitsByWriting_x1 (a 0) p x0 (by first | assumption | omega) hfl) (cwV 2 hts gL_bitsByWriting_X8_bitsByWriting rfl rfl rfl (by decide +kernel) ⟨Nat.le_of_ble_eq_true rfl, Nat.le_of_ble_eq_true rfl⟩) (preVX hCX hS hLo hP (ci := 7) (q0 := 0) rfl rfl) rfl rfl hl.1 rfl (lv_room (Nat.le_of_ble_eq_true rfl)) dL_bitsByWriting_5 ⟨Nat.le_of_ble_eq_true rfl, Nat.le_of_ble_eq_true rfl⟩) hP hS hown htab [] ⟨0, 10, 13, 13⟩ [⟨0, 10, 17, 15⟩] rfl (fun z hz => nomatch hz) (by decide) (by decide) (hts (.classLink RL 13 "java/lang/IndexOutOfBoundsException") (by decide +kernel)) (hC.nest 80 rfl) (fun q_1 H locs hP hS => ?_)
  refine lv_astore (lv' := [(4, .ref q_1), (0, .ref (a 0)), (1, .int (p)), (2, .int (x0)), (3, .ref oa)]) hx hb dL_bitsByWriting_13 hl (by decide) rfl (fun ls hl => ?_)
  refine lv_iconst (v := nI (1)) hx hb dL_bitsByWriting_15 (by decide) ?_
  exact xMi (G := G) (post := (fun (r : Int32) (u : Unit) => r = nI 1)) (w1 := (fun (u : Unit) => xW G a v mo ki pr df co bi g9 lr bf tn ln nx ct hv v0 k0 v1 k1 ++ [(oa, .inl (cL G, 1, .inr (.inl of)))])) (()) hx hb hr hlocks hP hS (by exact rfl) (by exact rfl) dL_bitsByWriting_16

set_option maxHeartbeats 4000000 in
set_option maxRecDepth 100000 in
theorem c_L_lastKind_1 {l : Launch} {G : GT} {H0 : Heap} (a : Nat → Nat) (v : SVT) (mo ki : Nat → Nat) (pr df : Nat → Int) (co : Int32) (bi : Nat) (g9 : Nat → Int32) (lr : Nat) (bf : Nat → Int) (tn : Nat → Nat) (ln nx ct : Nat) (hv : Nat → SVT) (v0 : SVT) (k0 : Nat) (v1 : SVT) (k1 : Nat) (oa : Nat) (of : Nat → Int64) (p : Int32) (hbad : p.toInt < 0 ∨ 4 ≤ p.toInt) (hfl : l.stackTraces = false) (hP0 : PP G (xW G a v mo ki pr df co bi g9 lr bf tn ln nx ct hv v0 k0 v1 k1 ++ [(oa, .inl (cL G, 1, .inr (.inl of)))]) H0) (hB0 : va_D (lo G) (xW G a v mo ki pr df co bi g9 lr bf tn ln nx ct hv v0 k0 v1 k1 ++ [(oa, .inl (cL G, 1, .inr (.inl of)))])) : Met l yL_lastKind wsL_lastKind ({ frames := 8, cells := 1, slots := 6, locals := 123 } : Room) (pcX G [.ref (a 0), .int (p), .ref oa] H0) (qMi G (fun (r : Int32) (u : Unit) => r = nI 1) (fun (u : Unit) => xW G a v mo ki pr df co bi g9 lr bf tn ln nx ct hv v0 k0 v1 k1 ++ [(oa, .inl (cL G, 1, .inr (.inl of)))]) (xW G a v mo ki pr df co bi g9 lr bf tn ln nx ct hv v0 k0 v1 k1 ++ [(oa, .inl (cL G, 1, .inr (.inl of)))]) H0) 1 6 (va_A (xW G a v mo ki pr df co bi g9 lr bf tn ln nx ct hv v0 k0 v1 k1 ++ [(oa, .inl (cL G, 1, .inr (.inl of)))]) H0.size) := by
  refine enterHX (cc := cL_lastKind) (maxL := 4) (ret := some .int) (own := RL) (lv := [(0, .ref (a 0)), (1, .int (p)), (2, .ref oa)]) (by decide) rfl rfl rfl (Nat.le_of_ble_eq_true rfl) ?_
  intro pg ev s m below meth c hx hb hr hts hown hlocks hml htab hH hCX ls hl
  subst hH
  have hC := hCX.1
  have hLo := va_freeB hB0 hC.2.2.2.1
  have hD := hB0.self (sz := s.heap.size)
  have hS : va_S (va_A (xW G a v mo ki pr df co bi g9 lr bf tn ln nx ct hv v0 k0 v1 k1 ++ [(oa, .inl (cL G, 1, .inr (.inl of)))]) s.heap.size) s.heap s.heap [] := va_S.rf
  unfold qMi
  generalize hAe : va_A (xW G a v mo ki pr df co bi g9 lr bf tn ln nx ct hv v0 k0 v1 k1 ++ [(oa, .inl (cL G, 1, .inr (.inl of)))]) s.heap.size = A at hD hLo hS ⊢
  have hA : ∀ q, s.heap.size ≤ q → A q := fun q h => by rw [← hAe]; exact Or.inr h
  generalize ([] : List Loc) = locs at hS ⊢
  have hP := hP0
  refine lv_aload_n hx hb dL_lastKind_0 rfl (lv_at hl 2 rfl) ?_
  refine lv_iconst (v := nI (0)) hx hb dL_lastKind_1 (by decide) ?_
  refine lv_aload_n hx hb dL_lastKind_2 rfl (lv_at hl 0 rfl) ?_
  refine lv_iload_n hx hb dL_lastKind_3 rfl (lv_at hl 1 rfl) ?_
  refine tCatch (hh := [(0, 9, 12, 13)]) (own := RL) (name := "java/lang/IndexOutOfBoundsException") (vx_runV (As := [.int (p)]) (rest := [.int (nI (0)), .ref oa]) ⟨hx, hb, hml, hown, hts⟩ (c_X8_lastKind_x1 (a 0) p (by first | assumption | omega) hfl) (cwV 1 hts gL_lastKind_X8_lastKind rfl rfl rfl (by decide +kernel) ⟨Nat.le_of_ble_eq_true rfl, Nat.le_of_ble_eq_true rfl⟩) (preVX hCX hS hLo hP (ci := 7) (q0 := 0) rfl rfl) rfl rfl hl.1 rfl (lv_room (Nat.le_of_ble_eq_true rfl)) dL_lastKind_4 ⟨Nat.le_of_ble_eq_true rfl, Nat.le_of_ble_eq_true rfl⟩) hP hS hown htab [] ⟨0, 9, 12, 13⟩ [] rfl (fun z hz => nomatch hz) (by decide) (by decide) (hts (.classLink RL 13 "java/lang/IndexOutOfBoundsException") (by decide +kernel)) (hC.nest 80 rfl) (fun q_1 H locs hP hS => ?_)
  refine lv_astore_n (lv' := [(3, .ref q_1), (0, .ref (a 0)), (1, .int (p)), (2, .ref oa)]) hx hb dL_lastKind_12 rfl hl (by decide) rfl (fun ls hl => ?_)
  refine lv_iconst (v := nI (1)) hx hb dL_lastKind_13 (by decide) ?_
  exact xMi (G := G) (post := (fun (r : Int32) (u : Unit) => r = nI 1)) (w1 := (fun (u : Unit) => xW G a v mo ki pr df co bi g9 lr bf tn ln nx ct hv v0 k0 v1 k1 ++ [(oa, .inl (cL G, 1, .inr (.inl of)))])) (()) hx hb hr hlocks hP hS (by exact rfl) (by exact rfl) dL_lastKind_14

set_option maxHeartbeats 4000000 in
set_option maxRecDepth 100000 in
theorem c_L_lastMove_1 {l : Launch} {G : GT} {H0 : Heap} (a : Nat → Nat) (v : SVT) (mo ki : Nat → Nat) (pr df : Nat → Int) (co : Int32) (bi : Nat) (g9 : Nat → Int32) (lr : Nat) (bf : Nat → Int) (tn : Nat → Nat) (ln nx ct : Nat) (hv : Nat → SVT) (v0 : SVT) (k0 : Nat) (v1 : SVT) (k1 : Nat) (oa : Nat) (of : Nat → Int64) (p : Int32) (hbad : p.toInt < 0 ∨ 4 ≤ p.toInt) (hfl : l.stackTraces = false) (hP0 : PP G (xW G a v mo ki pr df co bi g9 lr bf tn ln nx ct hv v0 k0 v1 k1 ++ [(oa, .inl (cL G, 1, .inr (.inl of)))]) H0) (hB0 : va_D (lo G) (xW G a v mo ki pr df co bi g9 lr bf tn ln nx ct hv v0 k0 v1 k1 ++ [(oa, .inl (cL G, 1, .inr (.inl of)))])) : Met l yL_lastMove wsL_lastMove ({ frames := 8, cells := 1, slots := 6, locals := 123 } : Room) (pcX G [.ref (a 0), .int (p), .ref oa] H0) (qMi G (fun (r : Int32) (u : Unit) => r = nI 1) (fun (u : Unit) => xW G a v mo ki pr df co bi g9 lr bf tn ln nx ct hv v0 k0 v1 k1 ++ [(oa, .inl (cL G, 1, .inr (.inl of)))]) (xW G a v mo ki pr df co bi g9 lr bf tn ln nx ct hv v0 k0 v1 k1 ++ [(oa, .inl (cL G, 1, .inr (.inl of)))]) H0) 1 6 (va_A (xW G a v mo ki pr df co bi g9 lr bf tn ln nx ct hv v0 k0 v1 k1 ++ [(oa, .inl (cL G, 1, .inr (.inl of)))]) H0.size) := by
  refine enterHX (cc := cL_lastMove) (maxL := 4) (ret := some .int) (own := RL) (lv := [(0, .ref (a 0)), (1, .int (p)), (2, .ref oa)]) (by decide) rfl rfl rfl (Nat.le_of_ble_eq_true rfl) ?_
  intro pg ev s m below meth c hx hb hr hts hown hlocks hml htab hH hCX ls hl
  subst hH
  have hC := hCX.1
  have hLo := va_freeB hB0 hC.2.2.2.1
  have hD := hB0.self (sz := s.heap.size)
  have hS : va_S (va_A (xW G a v mo ki pr df co bi g9 lr bf tn ln nx ct hv v0 k0 v1 k1 ++ [(oa, .inl (cL G, 1, .inr (.inl of)))]) s.heap.size) s.heap s.heap [] := va_S.rf
  unfold qMi
  generalize hAe : va_A (xW G a v mo ki pr df co bi g9 lr bf tn ln nx ct hv v0 k0 v1 k1 ++ [(oa, .inl (cL G, 1, .inr (.inl of)))]) s.heap.size = A at hD hLo hS ⊢
  have hA : ∀ q, s.heap.size ≤ q → A q := fun q h => by rw [← hAe]; exact Or.inr h
  generalize ([] : List Loc) = locs at hS ⊢
  have hP := hP0
  refine lv_aload_n hx hb dL_lastMove_0 rfl (lv_at hl 2 rfl) ?_
  refine lv_iconst (v := nI (0)) hx hb dL_lastMove_1 (by decide) ?_
  refine lv_aload_n hx hb dL_lastMove_2 rfl (lv_at hl 0 rfl) ?_
  refine lv_iload_n hx hb dL_lastMove_3 rfl (lv_at hl 1 rfl) ?_
  refine tCatch (hh := [(0, 9, 12, 13)]) (own := RL) (name := "java/lang/IndexOutOfBoundsException") (vx_runV (As := [.int (p)]) (rest := [.int (nI (0)), .ref oa]) ⟨hx, hb, hml, hown, hts⟩ (c_X8_lastMove_x1 (a 0) p (by first | assumption | omega) hfl) (cwV 1 hts gL_lastMove_X8_lastMove rfl rfl rfl (by decide +kernel) ⟨Nat.le_of_ble_eq_true rfl, Nat.le_of_ble_eq_true rfl⟩) (preVX hCX hS hLo hP (ci := 7) (q0 := 0) rfl rfl) rfl rfl hl.1 rfl (lv_room (Nat.le_of_ble_eq_true rfl)) dL_lastMove_4 ⟨Nat.le_of_ble_eq_true rfl, Nat.le_of_ble_eq_true rfl⟩) hP hS hown htab [] ⟨0, 9, 12, 13⟩ [] rfl (fun z hz => nomatch hz) (by decide) (by decide) (hts (.classLink RL 13 "java/lang/IndexOutOfBoundsException") (by decide +kernel)) (hC.nest 80 rfl) (fun q_1 H locs hP hS => ?_)
  refine lv_astore_n (lv' := [(3, .ref q_1), (0, .ref (a 0)), (1, .int (p)), (2, .ref oa)]) hx hb dL_lastMove_12 rfl hl (by decide) rfl (fun ls hl => ?_)
  refine lv_iconst (v := nI (1)) hx hb dL_lastMove_13 (by decide) ?_
  exact xMi (G := G) (post := (fun (r : Int32) (u : Unit) => r = nI 1)) (w1 := (fun (u : Unit) => xW G a v mo ki pr df co bi g9 lr bf tn ln nx ct hv v0 k0 v1 k1 ++ [(oa, .inl (cL G, 1, .inr (.inl of)))])) (()) hx hb hr hlocks hP hS (by exact rfl) (by exact rfl) dL_lastMove_14

set_option maxHeartbeats 4000000 in
set_option maxRecDepth 100000 in
theorem c_L_saveState_1 {l : Launch} {G : GT} {H0 : Heap} (a : Nat → Nat) (v : SVT) (mo ki : Nat → Nat) (pr df : Nat → Int) (co : Int32) (bi : Nat) (g9 : Nat → Int32) (lr : Nat) (bf : Nat → Int) (tn : Nat → Nat) (ln nx ct : Nat) (hv : Nat → SVT) (v0 : SVT) (k0 : Nat) (v1 : SVT) (k1 : Nat) (oa : Nat) (of : Nat → Int64) (p : Int32) (hbad : p.toInt < 0 ∨ 2 ≤ p.toInt) (hfl : l.stackTraces = false) (hP0 : PP G (xW G a v mo ki pr df co bi g9 lr bf tn ln nx ct hv v0 k0 v1 k1 ++ [(oa, .inl (cL G, 1, .inr (.inl of)))]) H0) (hB0 : va_D (lo G) (xW G a v mo ki pr df co bi g9 lr bf tn ln nx ct hv v0 k0 v1 k1 ++ [(oa, .inl (cL G, 1, .inr (.inl of)))])) : Met l yL_saveState wsL_saveState ({ frames := 8, cells := 1, slots := 6, locals := 124 } : Room) (pcX G [.ref (a 0), .int (p), .ref oa] H0) (qMi G (fun (r : Int32) (u : Unit) => r = nI 1) (fun (u : Unit) => xW G a v mo ki pr df co bi g9 lr bf tn ln nx ct hv v0 k0 v1 k1 ++ [(oa, .inl (cL G, 1, .inr (.inl of)))]) (xW G a v mo ki pr df co bi g9 lr bf tn ln nx ct hv v0 k0 v1 k1 ++ [(oa, .inl (cL G, 1, .inr (.inl of)))]) H0) 1 6 (va_A (xW G a v mo ki pr df co bi g9 lr bf tn ln nx ct hv v0 k0 v1 k1 ++ [(oa, .inl (cL G, 1, .inr (.inl of)))]) H0.size) := by
  refine enterHX (cc := cL_saveState) (maxL := 4) (ret := some .int) (own := RL) (lv := [(0, .ref (a 0)), (1, .int (p)), (2, .ref oa)]) (by decide) rfl rfl rfl (Nat.le_of_ble_eq_true rfl) ?_
  intro pg ev s m below meth c hx hb hr hts hown hlocks hml htab hH hCX ls hl
  subst hH
  have hC := hCX.1
  have hLo := va_freeB hB0 hC.2.2.2.1
  have hD := hB0.self (sz := s.heap.size)
  have hS : va_S (va_A (xW G a v mo ki pr df co bi g9 lr bf tn ln nx ct hv v0 k0 v1 k1 ++ [(oa, .inl (cL G, 1, .inr (.inl of)))]) s.heap.size) s.heap s.heap [] := va_S.rf
  unfold qMi
  generalize hAe : va_A (xW G a v mo ki pr df co bi g9 lr bf tn ln nx ct hv v0 k0 v1 k1 ++ [(oa, .inl (cL G, 1, .inr (.inl of)))]) s.heap.size = A at hD hLo hS ⊢
  have hA : ∀ q, s.heap.size ≤ q → A q := fun q h => by rw [← hAe]; exact Or.inr h
  generalize ([] : List Loc) = locs at hS ⊢
  have hP := hP0
  refine lv_aload_n hx hb dL_saveState_0 rfl (lv_at hl 2 rfl) ?_
  refine lv_iconst (v := nI (0)) hx hb dL_saveState_1 (by decide) ?_
  refine lv_aload_n hx hb dL_saveState_2 rfl (lv_at hl 0 rfl) ?_
  refine lv_iload_n hx hb dL_saveState_3 rfl (lv_at hl 1 rfl) ?_
  refine tCatch (hh := [(0, 9, 12, 13)]) (own := RL) (name := "java/lang/IndexOutOfBoundsException") (vx_runV (As := [.int (p)]) (rest := [.int (nI (0)), .ref oa]) ⟨hx, hb, hml, hown, hts⟩ (c_X8_saveState_x1 (a 0) p (by first | assumption | omega) hfl) (cwV 1 hts gL_saveState_X8_saveState rfl rfl rfl (by decide +kernel) ⟨Nat.le_of_ble_eq_true rfl, Nat.le_of_ble_eq_true rfl⟩) (preVX hCX hS hLo hP (ci := 7) (q0 := 0) rfl rfl) rfl rfl hl.1 rfl (lv_room (Nat.le_of_ble_eq_true rfl)) dL_saveState_4 ⟨Nat.le_of_ble_eq_true rfl, Nat.le_of_ble_eq_true rfl⟩) hP hS hown htab [] ⟨0, 9, 12, 13⟩ [] rfl (fun z hz => nomatch hz) (by decide) (by decide) (hts (.classLink RL 13 "java/lang/IndexOutOfBoundsException") (by decide +kernel)) (hC.nest 80 rfl) (fun q_1 H locs hP hS => ?_)
  refine lv_astore_n (lv' := [(3, .ref q_1), (0, .ref (a 0)), (1, .int (p)), (2, .ref oa)]) hx hb dL_saveState_12 rfl hl (by decide) rfl (fun ls hl => ?_)
  refine lv_iconst (v := nI (1)) hx hb dL_saveState_13 (by decide) ?_
  exact xMi (G := G) (post := (fun (r : Int32) (u : Unit) => r = nI 1)) (w1 := (fun (u : Unit) => xW G a v mo ki pr df co bi g9 lr bf tn ln nx ct hv v0 k0 v1 k1 ++ [(oa, .inl (cL G, 1, .inr (.inl of)))])) (()) hx hb hr hlocks hP hS (by exact rfl) (by exact rfl) dL_saveState_14

set_option maxHeartbeats 4000000 in
set_option maxRecDepth 100000 in
theorem c_L_loadState_1 {l : Launch} {G : GT} {H0 : Heap} (a : Nat → Nat) (v : SVT) (mo ki : Nat → Nat) (pr df : Nat → Int) (co : Int32) (bi : Nat) (g9 : Nat → Int32) (lr : Nat) (bf : Nat → Int) (tn : Nat → Nat) (ln nx ct : Nat) (hv : Nat → SVT) (v0 : SVT) (k0 : Nat) (v1 : SVT) (k1 : Nat) (oa : Nat) (of : Nat → Int64) (p : Int32) (hbad : p.toInt < 0 ∨ 2 ≤ p.toInt) (hfl : l.stackTraces = false) (hP0 : PP G (xW G a v mo ki pr df co bi g9 lr bf tn ln nx ct hv v0 k0 v1 k1 ++ [(oa, .inl (cL G, 1, .inr (.inl of)))]) H0) (hB0 : va_D (lo G) (xW G a v mo ki pr df co bi g9 lr bf tn ln nx ct hv v0 k0 v1 k1 ++ [(oa, .inl (cL G, 1, .inr (.inl of)))])) : Met l yL_loadState wsL_loadState ({ frames := 8, cells := 1, slots := 6, locals := 124 } : Room) (pcX G [.ref (a 0), .int (p), .ref oa] H0) (qMi G (fun (r : Int32) (u : Unit) => r = nI 1) (fun (u : Unit) => xW G a v mo ki pr df co bi g9 lr bf tn ln nx ct hv v0 k0 v1 k1 ++ [(oa, .inl (cL G, 1, .inr (.inl of)))]) (xW G a v mo ki pr df co bi g9 lr bf tn ln nx ct hv v0 k0 v1 k1 ++ [(oa, .inl (cL G, 1, .inr (.inl of)))]) H0) 1 6 (va_A (xW G a v mo ki pr df co bi g9 lr bf tn ln nx ct hv v0 k0 v1 k1 ++ [(oa, .inl (cL G, 1, .inr (.inl of)))]) H0.size) := by
  refine enterHX (cc := cL_loadState) (maxL := 4) (ret := some .int) (own := RL) (lv := [(0, .ref (a 0)), (1, .int (p)), (2, .ref oa)]) (by decide) rfl rfl rfl (Nat.le_of_ble_eq_true rfl) ?_
  intro pg ev s m below meth c hx hb hr hts hown hlocks hml htab hH hCX ls hl
  subst hH
  have hC := hCX.1
  have hLo := va_freeB hB0 hC.2.2.2.1
  have hD := hB0.self (sz := s.heap.size)
  have hS : va_S (va_A (xW G a v mo ki pr df co bi g9 lr bf tn ln nx ct hv v0 k0 v1 k1 ++ [(oa, .inl (cL G, 1, .inr (.inl of)))]) s.heap.size) s.heap s.heap [] := va_S.rf
  unfold qMi
  generalize hAe : va_A (xW G a v mo ki pr df co bi g9 lr bf tn ln nx ct hv v0 k0 v1 k1 ++ [(oa, .inl (cL G, 1, .inr (.inl of)))]) s.heap.size = A at hD hLo hS ⊢
  have hA : ∀ q, s.heap.size ≤ q → A q := fun q h => by rw [← hAe]; exact Or.inr h
  generalize ([] : List Loc) = locs at hS ⊢
  have hP := hP0
  refine lv_aload_n hx hb dL_loadState_0 rfl (lv_at hl 2 rfl) ?_
  refine lv_iconst (v := nI (0)) hx hb dL_loadState_1 (by decide) ?_
  refine lv_aload_n hx hb dL_loadState_2 rfl (lv_at hl 0 rfl) ?_
  refine lv_iload_n hx hb dL_loadState_3 rfl (lv_at hl 1 rfl) ?_
  refine tCatch (hh := [(0, 9, 12, 13), (0, 9, 15, 28)]) (own := RL) (name := "java/lang/IndexOutOfBoundsException") (vx_runV (As := [.int (p)]) (rest := [.int (nI (0)), .ref oa]) ⟨hx, hb, hml, hown, hts⟩ (c_X8_loadState_x1 (a 0) p (by first | assumption | omega) hfl) (cwV 1 hts gL_loadState_X8_loadState rfl rfl rfl (by decide +kernel) ⟨Nat.le_of_ble_eq_true rfl, Nat.le_of_ble_eq_true rfl⟩) (preVX hCX hS hLo hP (ci := 7) (q0 := 0) rfl rfl) rfl rfl hl.1 rfl (lv_room (Nat.le_of_ble_eq_true rfl)) dL_loadState_4 ⟨Nat.le_of_ble_eq_true rfl, Nat.le_of_ble_eq_true rfl⟩) hP hS hown htab [] ⟨0, 9, 12, 13⟩ [⟨0, 9, 15, 28⟩] rfl (fun z hz => nomatch hz) (by decide) (by decide) (hts (.classLink RL 13 "java/lang/IndexOutOfBoundsException") (by decide +kernel)) (hC.nest 80 rfl) (fun q_1 H locs hP hS => ?_)
  refine lv_astore_n (lv' := [(3, .ref q_1), (0, .ref (a 0)), (1, .int (p)), (2, .ref oa)]) hx hb dL_loadState_12 rfl hl (by decide) rfl (fun ls hl => ?_)
  refine lv_iconst (v := nI (1)) hx hb dL_loadState_13 (by decide) ?_
  exact xMi (G := G) (post := (fun (r : Int32) (u : Unit) => r = nI 1)) (w1 := (fun (u : Unit) => xW G a v mo ki pr df co bi g9 lr bf tn ln nx ct hv v0 k0 v1 k1 ++ [(oa, .inl (cL G, 1, .inr (.inl of)))])) (()) hx hb hr hlocks hP hS (by exact rfl) (by exact rfl) dL_loadState_14

set_option maxHeartbeats 4000000 in
set_option maxRecDepth 100000 in
theorem c_L_draw_2 {l : Launch} {G : GT} {H0 : Heap} (a : Nat → Nat) (v : SVT) (mo ki : Nat → Nat) (pr df : Nat → Int) (co : Int32) (bi : Nat) (g9 : Nat → Int32) (lr : Nat) (bf : Nat → Int) (tn : Nat → Nat) (ln nx ct : Nat) (hv : Nat → SVT) (v0 : SVT) (k0 : Nat) (v1 : SVT) (k1 : Nat) (oa : Nat) (of : Nat → Int64) (p : Nat) (w : Int32) (hp : p < 64) (hbad : w.toInt < 0 ∨ 15 < w.toInt) (hfl : l.stackTraces = false) (hP0 : PP G (xW G a v mo ki pr df co bi g9 lr bf tn ln nx ct hv v0 k0 v1 k1 ++ [(oa, .inl (cL G, 1, .inr (.inl of)))]) H0) (hB0 : va_D (lo G) (xW G a v mo ki pr df co bi g9 lr bf tn ln nx ct hv v0 k0 v1 k1 ++ [(oa, .inl (cL G, 1, .inr (.inl of)))])) : Met l yL_draw wsL_draw ({ frames := 8, cells := 1, slots := 6, locals := 126 } : Room) (pcX G [.ref (a 0), .int (nI (p)), .int (w), .ref oa] H0) (qMi G (fun (r : Int32) (u : Unit) => r = nI 2) (fun (u : Unit) => xW G a v mo ki pr df co bi g9 lr bf tn ln nx ct hv v0 k0 v1 k1 ++ [(oa, .inl (cL G, 1, .inr (.inl of)))]) (xW G a v mo ki pr df co bi g9 lr bf tn ln nx ct hv v0 k0 v1 k1 ++ [(oa, .inl (cL G, 1, .inr (.inl of)))]) H0) 1 6 (va_A (xW G a v mo ki pr df co bi g9 lr bf tn ln nx ct hv v0 k0 v1 k1 ++ [(oa, .inl (cL G, 1, .inr (.inl of)))]) H0.size) := by
  refine enterHX (cc := cL_draw) (maxL := 5) (ret := some .int) (own := RL) (lv := [(0, .ref (a 0)), (1, .int (nI (p))), (2, .int (w)), (3, .ref oa)]) (by decide) rfl rfl rfl (Nat.le_of_ble_eq_true rfl) ?_
  intro pg ev s m below meth c hx hb hr hts hown hlocks hml htab hH hCX ls hl
  subst hH
  have hC := hCX.1
  have hLo := va_freeB hB0 hC.2.2.2.1
  have hD := hB0.self (sz := s.heap.size)
  have hS : va_S (va_A (xW G a v mo ki pr df co bi g9 lr bf tn ln nx ct hv v0 k0 v1 k1 ++ [(oa, .inl (cL G, 1, .inr (.inl of)))]) s.heap.size) s.heap s.heap [] := va_S.rf
  unfold qMi
  generalize hAe : va_A (xW G a v mo ki pr df co bi g9 lr bf tn ln nx ct hv v0 k0 v1 k1 ++ [(oa, .inl (cL G, 1, .inr (.inl of)))]) s.heap.size = A at hD hLo hS ⊢
  have hA : ∀ q, s.heap.size ≤ q → A q := fun q h => by rw [← hAe]; exact Or.inr h
  generalize ([] : List Loc) = locs at hS ⊢
  have hP := hP0
  refine lv_aload_n hx hb dL_draw_0 rfl (lv_at hl 3 rfl) ?_
  refine lv_iconst (v := nI (0)) hx hb dL_draw_1 (by decide) ?_
  refine lv_aload_n hx hb dL_draw_2 rfl (lv_at hl 0 rfl) ?_
  refine lv_iload_n hx hb dL_draw_3 rfl (lv_at hl 1 rfl) ?_
  refine lv_iload_n hx hb dL_draw_4 rfl (lv_at hl 2 rfl) ?_
  refine tCatch (hh := [(0, 10, 13, 13), (0, 10, 17, 15)]) (own := RL) (name := "java/lang/IllegalArgumentException") (vx_runV (As := [.int (nI (p)), .int (w)]) (rest := [.int (nI (0)), .ref oa]) ⟨hx, hb, hml, hown, hts⟩ (c_X8_draw_x2 (a 0) p w (by first | assumption | omega) (by first | assumption | omega) hfl) (cwV 2 hts gL_draw_X8_draw rfl rfl rfl (by decide +kernel) ⟨Nat.le_of_ble_eq_true rfl, Nat.le_of_ble_eq_true rfl⟩) (preVX hCX hS hLo hP (ci := 7) (q0 := 0) rfl rfl) rfl rfl hl.1 rfl (lv_room (Nat.le_of_ble_eq_true rfl)) dL_draw_5 ⟨Nat.le_of_ble_eq_true rfl, Nat.le_of_ble_eq_true rfl⟩) hP hS hown htab [⟨0, 10, 13, 13⟩] ⟨0, 10, 17, 15⟩ [] rfl (fun z hz => by rcases List.mem_singleton.mp hz with rfl; exact Or.inr ⟨by decide, "java/lang/IndexOutOfBoundsException", (hts (.classLink RL 13 "java/lang/IndexOutOfBoundsException") (by decide +kernel)), hC.nc 0 rfl⟩) (by decide) (by decide) (hts (.classLink RL 15 "java/lang/IllegalArgumentException") (by decide +kernel)) (hC.nest 81 rfl) (fun q_1 H locs hP hS => ?_)
  refine lv_astore (lv' := [(4, .ref q_1), (0, .ref (a 0)), (1, .int (nI (p))), (2, .int (w)), (3, .ref oa)]) hx hb dL_draw_17 hl (by decide) rfl (fun ls hl => ?_)
  refine lv_iconst (v := nI (2)) hx hb dL_draw_19 (by decide) ?_
  exact xMi (G := G) (post := (fun (r : Int32) (u : Unit) => r = nI 2)) (w1 := (fun (u : Unit) => xW G a v mo ki pr df co bi g9 lr bf tn ln nx ct hv v0 k0 v1 k1 ++ [(oa, .inl (cL G, 1, .inr (.inl of)))])) (()) hx hb hr hlocks hP hS (by exact rfl) (by exact rfl) dL_draw_20

set_option maxHeartbeats 4000000 in
set_option maxRecDepth 100000 in
theorem c_L_fill_2a {l : Launch} {G : GT} {H0 : Heap} (a : Nat → Nat) (v : SVT) (mo ki : Nat → Nat) (pr df : Nat → Int) (co : Int32) (bi : Nat) (g9 : Nat → Int32) (lr : Nat) (bf : Nat → Int) (tn : Nat → Nat) (ln nx ct : Nat) (hv : Nat → SVT) (v0 : SVT) (k0 : Nat) (v1 : SVT) (k1 : Nat) (oa : Nat) (of : Nat → Int64) (p : Nat) (x0 x1 x2 : Int32) (hp : p < 64) (hbad : x0.toInt < 1 ∨ 8 < x0.toInt) (hfl : l.stackTraces = false) (hP0 : PP G (xW G a v mo ki pr df co bi g9 lr bf tn ln nx ct hv v0 k0 v1 k1 ++ [(oa, .inl (cL G, 1, .inr (.inl of)))]) H0) (hB0 : va_D (lo G) (xW G a v mo ki pr df co bi g9 lr bf tn ln nx ct hv v0 k0 v1 k1 ++ [(oa, .inl (cL G, 1, .inr (.inl of)))])) : Met l yL_fill wsL_fill ({ frames := 8, cells := 1, slots := 6, locals := 128 } : Room) (pcX G [.ref (a 0), .int (nI (p)), .int (x0), .int (x1), .int (x2), .ref oa] H0) (qMi G (fun (r : Int32) (u : Unit) => r = nI 2) (fun (u : Unit) => xW G a v mo ki pr df co bi g9 lr bf tn ln nx ct hv v0 k0 v1 k1 ++ [(oa, .inl (cL G, 1, .inr (.inl of)))]) (xW G a v mo ki pr df co bi g9 lr bf tn ln nx ct hv v0 k0 v1 k1 ++ [(oa, .inl (cL G, 1, .inr (.inl of)))]) H0) 1 6 (va_A (xW G a v mo ki pr df co bi g9 lr bf tn ln nx ct hv v0 k0 v1 k1 ++ [(oa, .inl (cL G, 1, .inr (.inl of)))]) H0.size) := by
  refine enterHX (cc := cL_fill) (maxL := 7) (ret := some .int) (own := RL) (lv := [(0, .ref (a 0)), (1, .int (nI (p))), (2, .int (x0)), (3, .int (x1)), (4, .int (x2)), (5, .ref oa)]) (by decide) rfl rfl rfl (Nat.le_of_ble_eq_true rfl) ?_
  intro pg ev s m below meth c hx hb hr hts hown hlocks hml htab hH hCX ls hl
  subst hH
  have hC := hCX.1
  have hLo := va_freeB hB0 hC.2.2.2.1
  have hD := hB0.self (sz := s.heap.size)
  have hS : va_S (va_A (xW G a v mo ki pr df co bi g9 lr bf tn ln nx ct hv v0 k0 v1 k1 ++ [(oa, .inl (cL G, 1, .inr (.inl of)))]) s.heap.size) s.heap s.heap [] := va_S.rf
  unfold qMi
  generalize hAe : va_A (xW G a v mo ki pr df co bi g9 lr bf tn ln nx ct hv v0 k0 v1 k1 ++ [(oa, .inl (cL G, 1, .inr (.inl of)))]) s.heap.size = A at hD hLo hS ⊢
  have hA : ∀ q, s.heap.size ≤ q → A q := fun q h => by rw [← hAe]; exact Or.inr h
  generalize ([] : List Loc) = locs at hS ⊢
  have hP := hP0
  refine lv_aload hx hb dL_fill_0 (lv_at hl 5 rfl) ?_
  refine lv_iconst (v := nI (0)) hx hb dL_fill_2 (by decide) ?_
  refine lv_aload_n hx hb dL_fill_3 rfl (lv_at hl 0 rfl) ?_
  refine lv_iload_n hx hb dL_fill_4 rfl (lv_at hl 1 rfl) ?_
  refine lv_iload_n hx hb dL_fill_5 rfl (lv_at hl 2 rfl) ?_
  refine lv_iload_n hx hb dL_fill_6 rfl (lv_at hl 3 rfl) ?_
  refine lv_iload hx hb dL_fill_7 (lv_at hl 4 rfl) ?_
  refine tCatch (hh := [(0, 14, 17, 13), (0, 14, 21, 15)]) (own := RL) (name := "java/lang/IllegalArgumentException") (vx_runV (As := [.int (nI (p)), .int (x0), .int (x1), .int (x2)]) (rest := [.int (nI (0)), .ref oa]) ⟨hx, hb, hml, hown, hts⟩ (c_X8_fill_x2a (a 0) p x0 x1 x2 (by first | assumption | omega) (by first | assumption | omega) hfl) (cwV 4 hts gL_fill_X8_fill rfl rfl rfl (by decide +kernel) ⟨Nat.le_of_ble_eq_true rfl, Nat.le_of_ble_eq_true rfl⟩) (preVX hCX hS hLo hP (ci := 7) (q0 := 0) rfl rfl) rfl rfl hl.1 rfl (lv_room (Nat.le_of_ble_eq_true rfl)) dL_fill_9 ⟨Nat.le_of_ble_eq_true rfl, Nat.le_of_ble_eq_true rfl⟩) hP hS hown htab [⟨0, 14, 17, 13⟩] ⟨0, 14, 21, 15⟩ [] rfl (fun z hz => by rcases List.mem_singleton.mp hz with rfl; exact Or.inr ⟨by decide, "java/lang/IndexOutOfBoundsException", (hts (.classLink RL 13 "java/lang/IndexOutOfBoundsException") (by decide +kernel)), hC.nc 0 rfl⟩) (by decide) (by decide) (hts (.classLink RL 15 "java/lang/IllegalArgumentException") (by decide +kernel)) (hC.nest 81 rfl) (fun q_1 H locs hP hS => ?_)
  refine lv_astore (lv' := [(6, .ref q_1), (0, .ref (a 0)), (1, .int (nI (p))), (2, .int (x0)), (3, .int (x1)), (4, .int (x2)), (5, .ref oa)]) hx hb dL_fill_21 hl (by decide) rfl (fun ls hl => ?_)
  refine lv_iconst (v := nI (2)) hx hb dL_fill_23 (by decide) ?_
  exact xMi (G := G) (post := (fun (r : Int32) (u : Unit) => r = nI 2)) (w1 := (fun (u : Unit) => xW G a v mo ki pr df co bi g9 lr bf tn ln nx ct hv v0 k0 v1 k1 ++ [(oa, .inl (cL G, 1, .inr (.inl of)))])) (()) hx hb hr hlocks hP hS (by exact rfl) (by exact rfl) dL_fill_24

set_option maxHeartbeats 4000000 in
set_option maxRecDepth 100000 in
theorem c_L_fill_2b {l : Launch} {G : GT} {H0 : Heap} (a : Nat → Nat) (v : SVT) (mo ki : Nat → Nat) (pr df : Nat → Int) (co : Int32) (bi : Nat) (g9 : Nat → Int32) (lr : Nat) (bf : Nat → Int) (tn : Nat → Nat) (ln nx ct : Nat) (hv : Nat → SVT) (v0 : SVT) (k0 : Nat) (v1 : SVT) (k1 : Nat) (oa : Nat) (of : Nat → Int64) (p : Nat) (x0 x1 x2 : Int32) (hp : p < 64) (h0 : 1 ≤ x0.toInt ∧ x0.toInt ≤ 8) (hbad : x1.toInt < 1 ∨ 8 < x1.toInt) (hfl : l.stackTraces = false) (hP0 : PP G (xW G a v mo ki pr df co bi g9 lr bf tn ln nx ct hv v0 k0 v1 k1 ++ [(oa, .inl (cL G, 1, .inr (.inl of)))]) H0) (hB0 : va_D (lo G) (xW G a v mo ki pr df co bi g9 lr bf tn ln nx ct hv v0 k0 v1 k1 ++ [(oa, .inl (cL G, 1, .inr (.inl of)))])) : Met l yL_fill wsL_fill ({ frames := 8, cells := 1, slots := 6, locals := 128 } : Room) (pcX G [.ref (a 0), .int (nI (p)), .int (x0), .int (x1), .int (x2), .ref oa] H0) (qMi G (fun (r : Int32) (u : Unit) => r = nI 2) (fun (u : Unit) => xW G a v mo ki pr df co bi g9 lr bf tn ln nx ct hv v0 k0 v1 k1 ++ [(oa, .inl (cL G, 1, .inr (.inl of)))]) (xW G a v mo ki pr df co bi g9 lr bf tn ln nx ct hv v0 k0 v1 k1 ++ [(oa, .inl (cL G, 1, .inr (.inl of)))]) H0) 1 6 (va_A (xW G a v mo ki pr df co bi g9 lr bf tn ln nx ct hv v0 k0 v1 k1 ++ [(oa, .inl (cL G, 1, .inr (.inl of)))]) H0.size) := by
  refine enterHX (cc := cL_fill) (maxL := 7) (ret := some .int) (own := RL) (lv := [(0, .ref (a 0)), (1, .int (nI (p))), (2, .int (x0)), (3, .int (x1)), (4, .int (x2)), (5, .ref oa)]) (by decide) rfl rfl rfl (Nat.le_of_ble_eq_true rfl) ?_
  intro pg ev s m below meth c hx hb hr hts hown hlocks hml htab hH hCX ls hl
  subst hH
  have hC := hCX.1
  have hLo := va_freeB hB0 hC.2.2.2.1
  have hD := hB0.self (sz := s.heap.size)
  have hS : va_S (va_A (xW G a v mo ki pr df co bi g9 lr bf tn ln nx ct hv v0 k0 v1 k1 ++ [(oa, .inl (cL G, 1, .inr (.inl of)))]) s.heap.size) s.heap s.heap [] := va_S.rf
  unfold qMi
  generalize hAe : va_A (xW G a v mo ki pr df co bi g9 lr bf tn ln nx ct hv v0 k0 v1 k1 ++ [(oa, .inl (cL G, 1, .inr (.inl of)))]) s.heap.size = A at hD hLo hS ⊢
  have hA : ∀ q, s.heap.size ≤ q → A q := fun q h => by rw [← hAe]; exact Or.inr h
  generalize ([] : List Loc) = locs at hS ⊢
  have hP := hP0
  refine lv_aload hx hb dL_fill_0 (lv_at hl 5 rfl) ?_
  refine lv_iconst (v := nI (0)) hx hb dL_fill_2 (by decide) ?_
  refine lv_aload_n hx hb dL_fill_3 rfl (lv_at hl 0 rfl) ?_
  refine lv_iload_n hx hb dL_fill_4 rfl (lv_at hl 1 rfl) ?_
  refine lv_iload_n hx hb dL_fill_5 rfl (lv_at hl 2 rfl) ?_
  refine lv_iload_n hx hb dL_fill_6 rfl (lv_at hl 3 rfl) ?_
  refine lv_iload hx hb dL_fill_7 (lv_at hl 4 rfl) ?_
  refine tCatch (hh := [(0, 14, 17, 13), (0, 14, 21, 15)]) (own := RL) (name := "java/lang/IllegalArgumentException") (vx_runV (As := [.int (nI (p)), .int (x0), .int (x1), .int (x2)]) (rest := [.int (nI (0)), .ref oa]) ⟨hx, hb, hml, hown, hts⟩ (c_X8_fill_x2b (a 0) p x0 x1 x2 (by first | assumption | omega) (by first | assumption | omega) (by first | assumption | omega) hfl) (cwV 4 hts gL_fill_X8_fill rfl rfl rfl (by decide +kernel) ⟨Nat.le_of_ble_eq_true rfl, Nat.le_of_ble_eq_true rfl⟩) (preVX hCX hS hLo hP (ci := 7) (q0 := 0) rfl rfl) rfl rfl hl.1 rfl (lv_room (Nat.le_of_ble_eq_true rfl)) dL_fill_9 ⟨Nat.le_of_ble_eq_true rfl, Nat.le_of_ble_eq_true rfl⟩) hP hS hown htab [⟨0, 14, 17, 13⟩] ⟨0, 14, 21, 15⟩ [] rfl (fun z hz => by rcases List.mem_singleton.mp hz with rfl; exact Or.inr ⟨by decide, "java/lang/IndexOutOfBoundsException", (hts (.classLink RL 13 "java/lang/IndexOutOfBoundsException") (by decide +kernel)), hC.nc 0 rfl⟩) (by decide) (by decide) (hts (.classLink RL 15 "java/lang/IllegalArgumentException") (by decide +kernel)) (hC.nest 81 rfl) (fun q_1 H locs hP hS => ?_)
  refine lv_astore (lv' := [(6, .ref q_1), (0, .ref (a 0)), (1, .int (nI (p))), (2, .int (x0)), (3, .int (x1)), (4, .int (x2)), (5, .ref oa)]) hx hb dL_fill_21 hl (by decide) rfl (fun ls hl => ?_)
  refine lv_iconst (v := nI (2)) hx hb dL_fill_23 (by decide) ?_
  exact xMi (G := G) (post := (fun (r : Int32) (u : Unit) => r = nI 2)) (w1 := (fun (u : Unit) => xW G a v mo ki pr df co bi g9 lr bf tn ln nx ct hv v0 k0 v1 k1 ++ [(oa, .inl (cL G, 1, .inr (.inl of)))])) (()) hx hb hr hlocks hP hS (by exact rfl) (by exact rfl) dL_fill_24

set_option maxHeartbeats 4000000 in
set_option maxRecDepth 100000 in
theorem c_L_fill_2c {l : Launch} {G : GT} {H0 : Heap} (a : Nat → Nat) (v : SVT) (mo ki : Nat → Nat) (pr df : Nat → Int) (co : Int32) (bi : Nat) (g9 : Nat → Int32) (lr : Nat) (bf : Nat → Int) (tn : Nat → Nat) (ln nx ct : Nat) (hv : Nat → SVT) (v0 : SVT) (k0 : Nat) (v1 : SVT) (k1 : Nat) (oa : Nat) (of : Nat → Int64) (p : Nat) (x0 x1 x2 : Int32) (hp : p < 64) (h0 : 1 ≤ x0.toInt ∧ x0.toInt ≤ 8) (h1 : 1 ≤ x1.toInt ∧ x1.toInt ≤ 8) (hbad : x2.toInt < 0 ∨ 15 < x2.toInt) (hfl : l.stackTraces = false) (hP0 : PP G (xW G a v mo ki pr df co bi g9 lr bf tn ln nx ct hv v0 k0 v1 k1 ++ [(oa, .inl (cL G, 1, .inr (.inl of)))]) H0) (hB0 : va_D (lo G) (xW G a v mo ki pr df co bi g9 lr bf tn ln nx ct hv v0 k0 v1 k1 ++ [(oa, .inl (cL G, 1, .inr (.inl of)))])) : Met l yL_fill wsL_fill ({ frames := 8, cells := 1, slots := 6, locals := 128 } : Room) (pcX G [.ref (a 0), .int (nI (p)), .int (x0), .int (x1), .int (x2), .ref oa] H0) (qMi G (fun (r : Int32) (u : Unit) => r = nI 2) (fun (u : Unit) => xW G a v mo ki pr df co bi g9 lr bf tn ln nx ct hv v0 k0 v1 k1 ++ [(oa, .inl (cL G, 1, .inr (.inl of)))]) (xW G a v mo ki pr df co bi g9 lr bf tn ln nx ct hv v0 k0 v1 k1 ++ [(oa, .inl (cL G, 1, .inr (.inl of)))]) H0) 1 6 (va_A (xW G a v mo ki pr df co bi g9 lr bf tn ln nx ct hv v0 k0 v1 k1 ++ [(oa, .inl (cL G, 1, .inr (.inl of)))]) H0.size) := by
  refine enterHX (cc := cL_fill) (maxL := 7) (ret := some .int) (own := RL) (lv := [(0, .ref (a 0)), (1, .int (nI (p))), (2, .int (x0)), (3, .int (x1)), (4, .int (x2)), (5, .ref oa)]) (by decide) rfl rfl rfl (Nat.le_of_ble_eq_true rfl) ?_
  intro pg ev s m below meth c hx hb hr hts hown hlocks hml htab hH hCX ls hl
  subst hH
  have hC := hCX.1
  have hLo := va_freeB hB0 hC.2.2.2.1
  have hD := hB0.self (sz := s.heap.size)
  have hS : va_S (va_A (xW G a v mo ki pr df co bi g9 lr bf tn ln nx ct hv v0 k0 v1 k1 ++ [(oa, .inl (cL G, 1, .inr (.inl of)))]) s.heap.size) s.heap s.heap [] := va_S.rf
  unfold qMi
  generalize hAe : va_A (xW G a v mo ki pr df co bi g9 lr bf tn ln nx ct hv v0 k0 v1 k1 ++ [(oa, .inl (cL G, 1, .inr (.inl of)))]) s.heap.size = A at hD hLo hS ⊢
  have hA : ∀ q, s.heap.size ≤ q → A q := fun q h => by rw [← hAe]; exact Or.inr h
  generalize ([] : List Loc) = locs at hS ⊢
  have hP := hP0
  refine lv_aload hx hb dL_fill_0 (lv_at hl 5 rfl) ?_
  refine lv_iconst (v := nI (0)) hx hb dL_fill_2 (by decide) ?_
  refine lv_aload_n hx hb dL_fill_3 rfl (lv_at hl 0 rfl) ?_
  refine lv_iload_n hx hb dL_fill_4 rfl (lv_at hl 1 rfl) ?_
  refine lv_iload_n hx hb dL_fill_5 rfl (lv_at hl 2 rfl) ?_
  refine lv_iload_n hx hb dL_fill_6 rfl (lv_at hl 3 rfl) ?_
  refine lv_iload hx hb dL_fill_7 (lv_at hl 4 rfl) ?_
  refine tCatch (hh := [(0, 14, 17, 13), (0, 14, 21, 15)]) (own := RL) (name := "java/lang/IllegalArgumentException") (vx_runV (As := [.int (nI (p)), .int (x0), .int (x1), .int (x2)]) (rest := [.int (nI (0)), .ref oa]) ⟨hx, hb, hml, hown, hts⟩ (c_X8_fill_x2c (a 0) p x0 x1 x2 (by first | assumption | omega) (by first | assumption | omega) (by first | assumption | omega) (by first | assumption | omega) hfl) (cwV 4 hts gL_fill_X8_fill rfl rfl rfl (by decide +kernel) ⟨Nat.le_of_ble_eq_true rfl, Nat.le_of_ble_eq_true rfl⟩) (preVX hCX hS hLo hP (ci := 7) (q0 := 0) rfl rfl) rfl rfl hl.1 rfl (lv_room (Nat.le_of_ble_eq_true rfl)) dL_fill_9 ⟨Nat.le_of_ble_eq_true rfl, Nat.le_of_ble_eq_true rfl⟩) hP hS hown htab [⟨0, 14, 17, 13⟩] ⟨0, 14, 21, 15⟩ [] rfl (fun z hz => by rcases List.mem_singleton.mp hz with rfl; exact Or.inr ⟨by decide, "java/lang/IndexOutOfBoundsException", (hts (.classLink RL 13 "java/lang/IndexOutOfBoundsException") (by decide +kernel)), hC.nc 0 rfl⟩) (by decide) (by decide) (hts (.classLink RL 15 "java/lang/IllegalArgumentException") (by decide +kernel)) (hC.nest 81 rfl) (fun q_1 H locs hP hS => ?_)
  refine lv_astore (lv' := [(6, .ref q_1), (0, .ref (a 0)), (1, .int (nI (p))), (2, .int (x0)), (3, .int (x1)), (4, .int (x2)), (5, .ref oa)]) hx hb dL_fill_21 hl (by decide) rfl (fun ls hl => ?_)
  refine lv_iconst (v := nI (2)) hx hb dL_fill_23 (by decide) ?_
  exact xMi (G := G) (post := (fun (r : Int32) (u : Unit) => r = nI 2)) (w1 := (fun (u : Unit) => xW G a v mo ki pr df co bi g9 lr bf tn ln nx ct hv v0 k0 v1 k1 ++ [(oa, .inl (cL G, 1, .inr (.inl of)))])) (()) hx hb hr hlocks hP hS (by exact rfl) (by exact rfl) dL_fill_24

set_option maxHeartbeats 4000000 in
set_option maxRecDepth 100000 in
theorem c_L_scroll_1a {l : Launch} {G : GT} {H0 : Heap} (a : Nat → Nat) (v : SVT) (mo ki : Nat → Nat) (pr df : Nat → Int) (co : Int32) (bi : Nat) (g9 : Nat → Int32) (lr : Nat) (bf : Nat → Int) (tn : Nat → Nat) (ln nx ct : Nat) (hv : Nat → SVT) (v0 : SVT) (k0 : Nat) (v1 : SVT) (k1 : Nat) (oa : Nat) (of : Nat → Int64) (x0 x1 : Int32) (hbad : x0.toInt < -2 ∨ 2 < x0.toInt) (hfl : l.stackTraces = false) (hP0 : PP G (xW G a v mo ki pr df co bi g9 lr bf tn ln nx ct hv v0 k0 v1 k1 ++ [(oa, .inl (cL G, 1, .inr (.inl of)))]) H0) (hB0 : va_D (lo G) (xW G a v mo ki pr df co bi g9 lr bf tn ln nx ct hv v0 k0 v1 k1 ++ [(oa, .inl (cL G, 1, .inr (.inl of)))])) : Met l yL_scroll wsL_scroll ({ frames := 8, cells := 1, slots := 6, locals := 126 } : Room) (pcX G [.ref (a 0), .int (x0), .int (x1), .ref oa] H0) (qMi G (fun (r : Int32) (u : Unit) => r = nI 1) (fun (u : Unit) => xW G a v mo ki pr df co bi g9 lr bf tn ln nx ct hv v0 k0 v1 k1 ++ [(oa, .inl (cL G, 1, .inr (.inl of)))]) (xW G a v mo ki pr df co bi g9 lr bf tn ln nx ct hv v0 k0 v1 k1 ++ [(oa, .inl (cL G, 1, .inr (.inl of)))]) H0) 1 6 (va_A (xW G a v mo ki pr df co bi g9 lr bf tn ln nx ct hv v0 k0 v1 k1 ++ [(oa, .inl (cL G, 1, .inr (.inl of)))]) H0.size) := by
  refine enterHX (cc := cL_scroll) (maxL := 5) (ret := some .int) (own := RL) (lv := [(0, .ref (a 0)), (1, .int (x0)), (2, .int (x1)), (3, .ref oa)]) (by decide) rfl rfl rfl (Nat.le_of_ble_eq_true rfl) ?_
  intro pg ev s m below meth c hx hb hr hts hown hlocks hml htab hH hCX ls hl
  subst hH
  have hC := hCX.1
  have hLo := va_freeB hB0 hC.2.2.2.1
  have hD := hB0.self (sz := s.heap.size)
  have hS : va_S (va_A (xW G a v mo ki pr df co bi g9 lr bf tn ln nx ct hv v0 k0 v1 k1 ++ [(oa, .inl (cL G, 1, .inr (.inl of)))]) s.heap.size) s.heap s.heap [] := va_S.rf
  unfold qMi
  generalize hAe : va_A (xW G a v mo ki pr df co bi g9 lr bf tn ln nx ct hv v0 k0 v1 k1 ++ [(oa, .inl (cL G, 1, .inr (.inl of)))]) s.heap.size = A at hD hLo hS ⊢
  have hA : ∀ q, s.heap.size ≤ q → A q := fun q h => by rw [← hAe]; exact Or.inr h
  generalize ([] : List Loc) = locs at hS ⊢
  have hP := hP0
  refine lv_aload_n hx hb dL_scroll_0 rfl (lv_at hl 3 rfl) ?_
  refine lv_iconst (v := nI (0)) hx hb dL_scroll_1 (by decide) ?_
  refine lv_aload_n hx hb dL_scroll_2 rfl (lv_at hl 0 rfl) ?_
  refine lv_iload_n hx hb dL_scroll_3 rfl (lv_at hl 1 rfl) ?_
  refine lv_iload_n hx hb dL_scroll_4 rfl (lv_at hl 2 rfl) ?_
  refine tCatch (hh := [(0, 10, 13, 15)]) (own := RL) (name := "java/lang/IllegalArgumentException") (vx_runV (As := [.int (x0), .int (x1)]) (rest := [.int (nI (0)), .ref oa]) ⟨hx, hb, hml, hown, hts⟩ (c_X8_scroll_x1a (a 0) x0 x1 (by first | assumption | omega) hfl) (cwV 2 hts gL_scroll_X8_scroll rfl rfl rfl (by decide +kernel) ⟨Nat.le_of_ble_eq_true rfl, Nat.le_of_ble_eq_true rfl⟩) (preVX hCX hS hLo hP (ci := 7) (q0 := 0) rfl rfl) rfl rfl hl.1 rfl (lv_room (Nat.le_of_ble_eq_true rfl)) dL_scroll_5 ⟨Nat.le_of_ble_eq_true rfl, Nat.le_of_ble_eq_true rfl⟩) hP hS hown htab [] ⟨0, 10, 13, 15⟩ [] rfl (fun z hz => nomatch hz) (by decide) (by decide) (hts (.classLink RL 15 "java/lang/IllegalArgumentException") (by decide +kernel)) (hC.nest 81 rfl) (fun q_1 H locs hP hS => ?_)
  refine lv_astore (lv' := [(4, .ref q_1), (0, .ref (a 0)), (1, .int (x0)), (2, .int (x1)), (3, .ref oa)]) hx hb dL_scroll_13 hl (by decide) rfl (fun ls hl => ?_)
  refine lv_iconst (v := nI (1)) hx hb dL_scroll_15 (by decide) ?_
  exact xMi (G := G) (post := (fun (r : Int32) (u : Unit) => r = nI 1)) (w1 := (fun (u : Unit) => xW G a v mo ki pr df co bi g9 lr bf tn ln nx ct hv v0 k0 v1 k1 ++ [(oa, .inl (cL G, 1, .inr (.inl of)))])) (()) hx hb hr hlocks hP hS (by exact rfl) (by exact rfl) dL_scroll_16

set_option maxHeartbeats 4000000 in
set_option maxRecDepth 100000 in
theorem c_L_scroll_1b {l : Launch} {G : GT} {H0 : Heap} (a : Nat → Nat) (v : SVT) (mo ki : Nat → Nat) (pr df : Nat → Int) (co : Int32) (bi : Nat) (g9 : Nat → Int32) (lr : Nat) (bf : Nat → Int) (tn : Nat → Nat) (ln nx ct : Nat) (hv : Nat → SVT) (v0 : SVT) (k0 : Nat) (v1 : SVT) (k1 : Nat) (oa : Nat) (of : Nat → Int64) (x0 x1 : Int32) (h0 : -2 ≤ x0.toInt ∧ x0.toInt ≤ 2) (hbad : x1.toInt < -2 ∨ 2 < x1.toInt) (hfl : l.stackTraces = false) (hP0 : PP G (xW G a v mo ki pr df co bi g9 lr bf tn ln nx ct hv v0 k0 v1 k1 ++ [(oa, .inl (cL G, 1, .inr (.inl of)))]) H0) (hB0 : va_D (lo G) (xW G a v mo ki pr df co bi g9 lr bf tn ln nx ct hv v0 k0 v1 k1 ++ [(oa, .inl (cL G, 1, .inr (.inl of)))])) : Met l yL_scroll wsL_scroll ({ frames := 8, cells := 1, slots := 6, locals := 126 } : Room) (pcX G [.ref (a 0), .int (x0), .int (x1), .ref oa] H0) (qMi G (fun (r : Int32) (u : Unit) => r = nI 1) (fun (u : Unit) => xW G a v mo ki pr df co bi g9 lr bf tn ln nx ct hv v0 k0 v1 k1 ++ [(oa, .inl (cL G, 1, .inr (.inl of)))]) (xW G a v mo ki pr df co bi g9 lr bf tn ln nx ct hv v0 k0 v1 k1 ++ [(oa, .inl (cL G, 1, .inr (.inl of)))]) H0) 1 6 (va_A (xW G a v mo ki pr df co bi g9 lr bf tn ln nx ct hv v0 k0 v1 k1 ++ [(oa, .inl (cL G, 1, .inr (.inl of)))]) H0.size) := by
  refine enterHX (cc := cL_scroll) (maxL := 5) (ret := some .int) (own := RL) (lv := [(0, .ref (a 0)), (1, .int (x0)), (2, .int (x1)), (3, .ref oa)]) (by decide) rfl rfl rfl (Nat.le_of_ble_eq_true rfl) ?_
  intro pg ev s m below meth c hx hb hr hts hown hlocks hml htab hH hCX ls hl
  subst hH
  have hC := hCX.1
  have hLo := va_freeB hB0 hC.2.2.2.1
  have hD := hB0.self (sz := s.heap.size)
  have hS : va_S (va_A (xW G a v mo ki pr df co bi g9 lr bf tn ln nx ct hv v0 k0 v1 k1 ++ [(oa, .inl (cL G, 1, .inr (.inl of)))]) s.heap.size) s.heap s.heap [] := va_S.rf
  unfold qMi
  generalize hAe : va_A (xW G a v mo ki pr df co bi g9 lr bf tn ln nx ct hv v0 k0 v1 k1 ++ [(oa, .inl (cL G, 1, .inr (.inl of)))]) s.heap.size = A at hD hLo hS ⊢
  have hA : ∀ q, s.heap.size ≤ q → A q := fun q h => by rw [← hAe]; exact Or.inr h
  generalize ([] : List Loc) = locs at hS ⊢
  have hP := hP0
  refine lv_aload_n hx hb dL_scroll_0 rfl (lv_at hl 3 rfl) ?_
  refine lv_iconst (v := nI (0)) hx hb dL_scroll_1 (by decide) ?_
  refine lv_aload_n hx hb dL_scroll_2 rfl (lv_at hl 0 rfl) ?_
  refine lv_iload_n hx hb dL_scroll_3 rfl (lv_at hl 1 rfl) ?_
  refine lv_iload_n hx hb dL_scroll_4 rfl (lv_at hl 2 rfl) ?_
  refine tCatch (hh := [(0, 10, 13, 15)]) (own := RL) (name := "java/lang/IllegalArgumentException") (vx_runV (As := [.int (x0), .int (x1)]) (rest := [.int (nI (0)), .ref oa]) ⟨hx, hb, hml, hown, hts⟩ (c_X8_scroll_x1b (a 0) x0 x1 (by first | assumption | omega) (by first | assumption | omega) hfl) (cwV 2 hts gL_scroll_X8_scroll rfl rfl rfl (by decide +kernel) ⟨Nat.le_of_ble_eq_true rfl, Nat.le_of_ble_eq_true rfl⟩) (preVX hCX hS hLo hP (ci := 7) (q0 := 0) rfl rfl) rfl rfl hl.1 rfl (lv_room (Nat.le_of_ble_eq_true rfl)) dL_scroll_5 ⟨Nat.le_of_ble_eq_true rfl, Nat.le_of_ble_eq_true rfl⟩) hP hS hown htab [] ⟨0, 10, 13, 15⟩ [] rfl (fun z hz => nomatch hz) (by decide) (by decide) (hts (.classLink RL 15 "java/lang/IllegalArgumentException") (by decide +kernel)) (hC.nest 81 rfl) (fun q_1 H locs hP hS => ?_)
  refine lv_astore (lv' := [(4, .ref q_1), (0, .ref (a 0)), (1, .int (x0)), (2, .int (x1)), (3, .ref oa)]) hx hb dL_scroll_13 hl (by decide) rfl (fun ls hl => ?_)
  refine lv_iconst (v := nI (1)) hx hb dL_scroll_15 (by decide) ?_
  exact xMi (G := G) (post := (fun (r : Int32) (u : Unit) => r = nI 1)) (w1 := (fun (u : Unit) => xW G a v mo ki pr df co bi g9 lr bf tn ln nx ct hv v0 k0 v1 k1 ++ [(oa, .inl (cL G, 1, .inr (.inl of)))])) (()) hx hb hr hlocks hP hS (by exact rfl) (by exact rfl) dL_scroll_16

set_option maxHeartbeats 4000000 in
set_option maxRecDepth 100000 in
theorem c_L_setBudget_1 {l : Launch} {G : GT} {H0 : Heap} (a : Nat → Nat) (v : SVT) (mo ki : Nat → Nat) (pr df : Nat → Int) (co : Int32) (bi : Nat) (g9 : Nat → Int32) (lr : Nat) (bf : Nat → Int) (tn : Nat → Nat) (ln nx ct : Nat) (hv : Nat → SVT) (v0 : SVT) (k0 : Nat) (v1 : SVT) (k1 : Nat) (oa : Nat) (of : Nat → Int64) (x0 : Int32) (hbad : x0.toInt < 4 ∨ 300 < x0.toInt) (hfl : l.stackTraces = false) (hP0 : PP G (xW G a v mo ki pr df co bi g9 lr bf tn ln nx ct hv v0 k0 v1 k1 ++ [(oa, .inl (cL G, 1, .inr (.inl of)))]) H0) (hB0 : va_D (lo G) (xW G a v mo ki pr df co bi g9 lr bf tn ln nx ct hv v0 k0 v1 k1 ++ [(oa, .inl (cL G, 1, .inr (.inl of)))])) : Met l yL_setBudget wsL_setBudget ({ frames := 8, cells := 1, slots := 6, locals := 126 } : Room) (pcX G [.ref (a 0), .int (x0), .ref oa] H0) (qMi G (fun (r : Int32) (u : Unit) => r = nI 1) (fun (u : Unit) => xW G a v mo ki pr df co bi g9 lr bf tn ln nx ct hv v0 k0 v1 k1 ++ [(oa, .inl (cL G, 1, .inr (.inl of)))]) (xW G a v mo ki pr df co bi g9 lr bf tn ln nx ct hv v0 k0 v1 k1 ++ [(oa, .inl (cL G, 1, .inr (.inl of)))]) H0) 1 6 (va_A (xW G a v mo ki pr df co bi g9 lr bf tn ln nx ct hv v0 k0 v1 k1 ++ [(oa, .inl (cL G, 1, .inr (.inl of)))]) H0.size) := by
  refine enterHX (cc := cL_setBudget) (maxL := 4) (ret := some .int) (own := RL) (lv := [(0, .ref (a 0)), (1, .int (x0)), (2, .ref oa)]) (by decide) rfl rfl rfl (Nat.le_of_ble_eq_true rfl) ?_
  intro pg ev s m below meth c hx hb hr hts hown hlocks hml htab hH hCX ls hl
  subst hH
  have hC := hCX.1
  have hLo := va_freeB hB0 hC.2.2.2.1
  have hD := hB0.self (sz := s.heap.size)
  have hS : va_S (va_A (xW G a v mo ki pr df co bi g9 lr bf tn ln nx ct hv v0 k0 v1 k1 ++ [(oa, .inl (cL G, 1, .inr (.inl of)))]) s.heap.size) s.heap s.heap [] := va_S.rf
  unfold qMi
  generalize hAe : va_A (xW G a v mo ki pr df co bi g9 lr bf tn ln nx ct hv v0 k0 v1 k1 ++ [(oa, .inl (cL G, 1, .inr (.inl of)))]) s.heap.size = A at hD hLo hS ⊢
  have hA : ∀ q, s.heap.size ≤ q → A q := fun q h => by rw [← hAe]; exact Or.inr h
  generalize ([] : List Loc) = locs at hS ⊢
  have hP := hP0
  refine lv_aload_n hx hb dL_setBudget_0 rfl (lv_at hl 2 rfl) ?_
  refine lv_iconst (v := nI (0)) hx hb dL_setBudget_1 (by decide) ?_
  refine lv_aload_n hx hb dL_setBudget_2 rfl (lv_at hl 0 rfl) ?_
  refine lv_iload_n hx hb dL_setBudget_3 rfl (lv_at hl 1 rfl) ?_
  refine tCatch (hh := [(0, 9, 12, 15)]) (own := RL) (name := "java/lang/IllegalArgumentException") (vx_runV (As := [.int (x0)]) (rest := [.int (nI (0)), .ref oa]) ⟨hx, hb, hml, hown, hts⟩ (c_X8_setBudget_x1 (a 0) x0 (by first | assumption | omega) hfl) (cwV 1 hts gL_setBudget_X8_setBudget rfl rfl rfl (by decide +kernel) ⟨Nat.le_of_ble_eq_true rfl, Nat.le_of_ble_eq_true rfl⟩) (preVX hCX hS hLo hP (ci := 7) (q0 := 0) rfl rfl) rfl rfl hl.1 rfl (lv_room (Nat.le_of_ble_eq_true rfl)) dL_setBudget_4 ⟨Nat.le_of_ble_eq_true rfl, Nat.le_of_ble_eq_true rfl⟩) hP hS hown htab [] ⟨0, 9, 12, 15⟩ [] rfl (fun z hz => nomatch hz) (by decide) (by decide) (hts (.classLink RL 15 "java/lang/IllegalArgumentException") (by decide +kernel)) (hC.nest 81 rfl) (fun q_1 H locs hP hS => ?_)
  refine lv_astore_n (lv' := [(3, .ref q_1), (0, .ref (a 0)), (1, .int (x0)), (2, .ref oa)]) hx hb dL_setBudget_12 rfl hl (by decide) rfl (fun ls hl => ?_)
  refine lv_iconst (v := nI (1)) hx hb dL_setBudget_13 (by decide) ?_
  exact xMi (G := G) (post := (fun (r : Int32) (u : Unit) => r = nI 1)) (w1 := (fun (u : Unit) => xW G a v mo ki pr df co bi g9 lr bf tn ln nx ct hv v0 k0 v1 k1 ++ [(oa, .inl (cL G, 1, .inr (.inl of)))])) (()) hx hb hr hlocks hP hS (by exact rfl) (by exact rfl) dL_setBudget_14

set_option maxHeartbeats 4000000 in
set_option maxRecDepth 100000 in
theorem c_L_setKeyDistance_1 {l : Launch} {G : GT} {H0 : Heap} (a : Nat → Nat) (v : SVT) (mo ki : Nat → Nat) (pr df : Nat → Int) (co : Int32) (bi : Nat) (g9 : Nat → Int32) (lr : Nat) (bf : Nat → Int) (tn : Nat → Nat) (ln nx ct : Nat) (hv : Nat → SVT) (v0 : SVT) (k0 : Nat) (v1 : SVT) (k1 : Nat) (oa : Nat) (of : Nat → Int64) (x0 : Int32) (hbad : x0.toInt < 1 ∨ 20 < x0.toInt) (hfl : l.stackTraces = false) (hP0 : PP G (xW G a v mo ki pr df co bi g9 lr bf tn ln nx ct hv v0 k0 v1 k1 ++ [(oa, .inl (cL G, 1, .inr (.inl of)))]) H0) (hB0 : va_D (lo G) (xW G a v mo ki pr df co bi g9 lr bf tn ln nx ct hv v0 k0 v1 k1 ++ [(oa, .inl (cL G, 1, .inr (.inl of)))])) : Met l yL_setKeyDistance wsL_setKeyDistance ({ frames := 8, cells := 1, slots := 6, locals := 126 } : Room) (pcX G [.ref (a 0), .int (x0), .ref oa] H0) (qMi G (fun (r : Int32) (u : Unit) => r = nI 1) (fun (u : Unit) => xW G a v mo ki pr df co bi g9 lr bf tn ln nx ct hv v0 k0 v1 k1 ++ [(oa, .inl (cL G, 1, .inr (.inl of)))]) (xW G a v mo ki pr df co bi g9 lr bf tn ln nx ct hv v0 k0 v1 k1 ++ [(oa, .inl (cL G, 1, .inr (.inl of)))]) H0) 1 6 (va_A (xW G a v mo ki pr df co bi g9 lr bf tn ln nx ct hv v0 k0 v1 k1 ++ [(oa, .inl (cL G, 1, .inr (.inl of)))]) H0.size) := by
  refine enterHX (cc := cL_setKeyDistance) (maxL := 4) (ret := some .int) (own := RL) (lv := [(0, .ref (a 0)), (1, .int (x0)), (2, .ref oa)]) (by decide) rfl rfl rfl (Nat.le_of_ble_eq_true rfl) ?_
  intro pg ev s m below meth c hx hb hr hts hown hlocks hml htab hH hCX ls hl
  subst hH
  have hC := hCX.1
  have hLo := va_freeB hB0 hC.2.2.2.1
  have hD := hB0.self (sz := s.heap.size)
  have hS : va_S (va_A (xW G a v mo ki pr df co bi g9 lr bf tn ln nx ct hv v0 k0 v1 k1 ++ [(oa, .inl (cL G, 1, .inr (.inl of)))]) s.heap.size) s.heap s.heap [] := va_S.rf
  unfold qMi
  generalize hAe : va_A (xW G a v mo ki pr df co bi g9 lr bf tn ln nx ct hv v0 k0 v1 k1 ++ [(oa, .inl (cL G, 1, .inr (.inl of)))]) s.heap.size = A at hD hLo hS ⊢
  have hA : ∀ q, s.heap.size ≤ q → A q := fun q h => by rw [← hAe]; exact Or.inr h
  generalize ([] : List Loc) = locs at hS ⊢
  have hP := hP0
  refine lv_aload_n hx hb dL_setKeyDistance_0 rfl (lv_at hl 2 rfl) ?_
  refine lv_iconst (v := nI (0)) hx hb dL_setKeyDistance_1 (by decide) ?_
  refine lv_aload_n hx hb dL_setKeyDistance_2 rfl (lv_at hl 0 rfl) ?_
  refine lv_iload_n hx hb dL_setKeyDistance_3 rfl (lv_at hl 1 rfl) ?_
  refine tCatch (hh := [(0, 9, 12, 15)]) (own := RL) (name := "java/lang/IllegalArgumentException") (vx_runV (As := [.int (x0)]) (rest := [.int (nI (0)), .ref oa]) ⟨hx, hb, hml, hown, hts⟩ (c_X8_setKeyDistance_x1 (a 0) x0 (by first | assumption | omega) hfl) (cwV 1 hts gL_setKeyDistance_X8_setKeyDistance rfl rfl rfl (by decide +kernel) ⟨Nat.le_of_ble_eq_true rfl, Nat.le_of_ble_eq_true rfl⟩) (preVX hCX hS hLo hP (ci := 7) (q0 := 0) rfl rfl) rfl rfl hl.1 rfl (lv_room (Nat.le_of_ble_eq_true rfl)) dL_setKeyDistance_4 ⟨Nat.le_of_ble_eq_true rfl, Nat.le_of_ble_eq_true rfl⟩) hP hS hown htab [] ⟨0, 9, 12, 15⟩ [] rfl (fun z hz => nomatch hz) (by decide) (by decide) (hts (.classLink RL 15 "java/lang/IllegalArgumentException") (by decide +kernel)) (hC.nest 81 rfl) (fun q_1 H locs hP hS => ?_)
  refine lv_astore_n (lv' := [(3, .ref q_1), (0, .ref (a 0)), (1, .int (x0)), (2, .ref oa)]) hx hb dL_setKeyDistance_12 rfl hl (by decide) rfl (fun ls hl => ?_)
  refine lv_iconst (v := nI (1)) hx hb dL_setKeyDistance_13 (by decide) ?_
  exact xMi (G := G) (post := (fun (r : Int32) (u : Unit) => r = nI 1)) (w1 := (fun (u : Unit) => xW G a v mo ki pr df co bi g9 lr bf tn ln nx ct hv v0 k0 v1 k1 ++ [(oa, .inl (cL G, 1, .inr (.inl of)))])) (()) hx hb hr hlocks hP hS (by exact rfl) (by exact rfl) dL_setKeyDistance_14

set_option maxHeartbeats 4000000 in
set_option maxRecDepth 100000 in
theorem c_L_send_1 {l : Launch} {G : GT} {H0 : Heap} (a : Nat → Nat) (v : SVT) (mo ki : Nat → Nat) (pr df : Nat → Int) (co : Int32) (bi : Nat) (g9 : Nat → Int32) (lr : Nat) (bf : Nat → Int) (tn : Nat → Nat) (ln nx ct : Nat) (hv : Nat → SVT) (v0 : SVT) (k0 : Nat) (v1 : SVT) (k1 : Nat) (oa : Nat) (of : Nat → Int64) (x0 : Int32) (hkd : 1 ≤ v.2.2.2.2.2.2.1 ∧ v.2.2.2.2.2.2.1 ≤ 20) (hpi : v.2.2.2.2.2.2.2.1 ≤ 999) (hms : ¬ v.2.2.2.2.2.2.2.1 < 999) (hfl : l.stackTraces = false) (hP0 : PP G (xW G a v mo ki pr df co bi g9 lr bf tn ln nx ct hv v0 k0 v1 k1 ++ [(oa, .inl (cL G, 1, .inr (.inl of)))]) H0) (hB0 : va_D (lo G) (xW G a v mo ki pr df co bi g9 lr bf tn ln nx ct hv v0 k0 v1 k1 ++ [(oa, .inl (cL G, 1, .inr (.inl of)))])) : Met l yL_send wsL_send ({ frames := 7, cells := 1, slots := 6, locals := 103 } : Room) (pcX G [.ref (a 0), .int (x0), .ref oa] H0) (qMi G (fun (r : Int32) (u : Unit) => r = nI 1) (fun (u : Unit) => xW G a v mo ki pr df co bi g9 lr bf tn ln nx ct hv v0 k0 v1 k1 ++ [(oa, .inl (cL G, 1, .inr (.inl of)))]) (xW G a v mo ki pr df co bi g9 lr bf tn ln nx ct hv v0 k0 v1 k1 ++ [(oa, .inl (cL G, 1, .inr (.inl of)))]) H0) 1 6 (va_A (xW G a v mo ki pr df co bi g9 lr bf tn ln nx ct hv v0 k0 v1 k1 ++ [(oa, .inl (cL G, 1, .inr (.inl of)))]) H0.size) := by
  refine enterHX (cc := cL_send) (maxL := 4) (ret := some .int) (own := RL) (lv := [(0, .ref (a 0)), (1, .int (x0)), (2, .ref oa)]) (by decide) rfl rfl rfl (Nat.le_of_ble_eq_true rfl) ?_
  intro pg ev s m below meth c hx hb hr hts hown hlocks hml htab hH hCX ls hl
  subst hH
  have hC := hCX.1
  have hLo := va_freeB hB0 hC.2.2.2.1
  have hD := hB0.self (sz := s.heap.size)
  have hS : va_S (va_A (xW G a v mo ki pr df co bi g9 lr bf tn ln nx ct hv v0 k0 v1 k1 ++ [(oa, .inl (cL G, 1, .inr (.inl of)))]) s.heap.size) s.heap s.heap [] := va_S.rf
  unfold qMi
  generalize hAe : va_A (xW G a v mo ki pr df co bi g9 lr bf tn ln nx ct hv v0 k0 v1 k1 ++ [(oa, .inl (cL G, 1, .inr (.inl of)))]) s.heap.size = A at hD hLo hS ⊢
  have hA : ∀ q, s.heap.size ≤ q → A q := fun q h => by rw [← hAe]; exact Or.inr h
  generalize ([] : List Loc) = locs at hS ⊢
  have hP := hP0
  refine lv_aload_n hx hb dL_send_0 rfl (lv_at hl 2 rfl) ?_
  refine lv_iconst (v := nI (0)) hx hb dL_send_1 (by decide) ?_
  refine lv_aload_n hx hb dL_send_2 rfl (lv_at hl 0 rfl) ?_
  refine lv_iload_n hx hb dL_send_3 rfl (lv_at hl 1 rfl) ?_
  refine tCatch (hh := [(0, 9, 12, 28)]) (own := RL) (name := "java/lang/IllegalStateException") (vx_runV (As := [.int (x0)]) (rest := [.int (nI (0)), .ref oa]) ⟨hx, hb, hml, hown, hts⟩ (c_X8_send_x1 a v x0 (by first | assumption | omega) (by first | assumption | omega) (by first | assumption | omega) hfl (xW_now (pre_P hP))) (cwV 1 hts gL_send_X8_send rfl rfl rfl (by decide +kernel) ⟨Nat.le_of_ble_eq_true rfl, Nat.le_of_ble_eq_true rfl⟩) (preVX hCX hS hLo hP (ci := 7) (q0 := 0) rfl rfl) rfl rfl hl.1 rfl (lv_room (Nat.le_of_ble_eq_true rfl)) dL_send_4 ⟨Nat.le_of_ble_eq_true rfl, Nat.le_of_ble_eq_true rfl⟩) hP hS hown htab [] ⟨0, 9, 12, 28⟩ [] rfl (fun z hz => nomatch hz) (by decide) (by decide) (hts (.classLink RL 28 "java/lang/IllegalStateException") (by decide +kernel)) (hC.nest 82 rfl) (fun q_1 H locs hP hS => ?_)
  refine lv_astore_n (lv' := [(3, .ref q_1), (0, .ref (a 0)), (1, .int (x0)), (2, .ref oa)]) hx hb dL_send_12 rfl hl (by decide) rfl (fun ls hl => ?_)
  refine lv_iconst (v := nI (1)) hx hb dL_send_13 (by decide) ?_
  exact xMi (G := G) (post := (fun (r : Int32) (u : Unit) => r = nI 1)) (w1 := (fun (u : Unit) => xW G a v mo ki pr df co bi g9 lr bf tn ln nx ct hv v0 k0 v1 k1 ++ [(oa, .inl (cL G, 1, .inr (.inl of)))])) (()) hx hb hr hlocks hP hS (by exact rfl) (by exact rfl) dL_send_14

set_option maxHeartbeats 4000000 in
set_option maxRecDepth 100000 in
theorem c_L_runText_1 {l : Launch} {G : GT} {H0 : Heap} (a : Nat → Nat) (v : SVT) (mo ki : Nat → Nat) (pr df : Nat → Int) (co : Int32) (bi : Nat) (g9 : Nat → Int32) (lr : Nat) (bf : Nat → Int) (tn : Nat → Nat) (ln nx ct : Nat) (hv : Nat → SVT) (v0 : SVT) (k0 : Nat) (v1 : SVT) (k1 : Nat) (oa : Nat) (of : Nat → Int64) (htn : T128 tn) (hln : ln ≤ 80) (hfe : ¬ FE tn ln = -1) (hfl : l.stackTraces = false) (hP0 : PP G (xW G a v mo ki pr df co bi g9 lr bf tn ln nx ct hv v0 k0 v1 k1 ++ [(oa, .inl (cL G, 1, .inr (.inl of)))]) H0) (hB0 : va_D (lo G) (xW G a v mo ki pr df co bi g9 lr bf tn ln nx ct hv v0 k0 v1 k1 ++ [(oa, .inl (cL G, 1, .inr (.inl of)))])) : Met l yL_runText wsL_runText ({ frames := 7, cells := 1, slots := 6, locals := 105 } : Room) (pcX G [.ref (a 0), .ref oa] H0) (qMi G (fun (r : Int32) (u : Unit) => r = nI 1) (fun (u : Unit) => xW G a v mo ki pr df co bi g9 lr bf tn ln nx ct hv v0 k0 v1 k1 ++ [(oa, .inl (cL G, 1, .inr (.inl of)))]) (xW G a v mo ki pr df co bi g9 lr bf tn ln nx ct hv v0 k0 v1 k1 ++ [(oa, .inl (cL G, 1, .inr (.inl of)))]) H0) 1 6 (va_A (xW G a v mo ki pr df co bi g9 lr bf tn ln nx ct hv v0 k0 v1 k1 ++ [(oa, .inl (cL G, 1, .inr (.inl of)))]) H0.size) := by
  refine enterHX (cc := cL_runText) (maxL := 3) (ret := some .int) (own := RL) (lv := [(0, .ref (a 0)), (1, .ref oa)]) (by decide) rfl rfl rfl (Nat.le_of_ble_eq_true rfl) ?_
  intro pg ev s m below meth c hx hb hr hts hown hlocks hml htab hH hCX ls hl
  subst hH
  have hC := hCX.1
  have hLo := va_freeB hB0 hC.2.2.2.1
  have hD := hB0.self (sz := s.heap.size)
  have hS : va_S (va_A (xW G a v mo ki pr df co bi g9 lr bf tn ln nx ct hv v0 k0 v1 k1 ++ [(oa, .inl (cL G, 1, .inr (.inl of)))]) s.heap.size) s.heap s.heap [] := va_S.rf
  unfold qMi
  generalize hAe : va_A (xW G a v mo ki pr df co bi g9 lr bf tn ln nx ct hv v0 k0 v1 k1 ++ [(oa, .inl (cL G, 1, .inr (.inl of)))]) s.heap.size = A at hD hLo hS ⊢
  have hA : ∀ q, s.heap.size ≤ q → A q := fun q h => by rw [← hAe]; exact Or.inr h
  generalize ([] : List Loc) = locs at hS ⊢
  have hP := hP0
  refine lv_aload_n hx hb dL_runText_0 rfl (lv_at hl 1 rfl) ?_
  refine lv_iconst (v := nI (0)) hx hb dL_runText_1 (by decide) ?_
  refine lv_aload_n hx hb dL_runText_2 rfl (lv_at hl 0 rfl) ?_
  refine tCatch (hh := [(0, 8, 11, 28)]) (own := RL) (name := "java/lang/IllegalStateException") (vx_runV (As := []) (rest := [.int (nI (0)), .ref oa]) ⟨hx, hb, hml, hown, hts⟩ (c_X8_runText_x1 a tn ln (by first | assumption | omega) (by first | assumption | omega) (by first | assumption | omega) hfl (xW_txt (pre_P hP))) (cwV 0 hts gL_runText_X8_runText rfl rfl rfl (by decide +kernel) ⟨Nat.le_of_ble_eq_true rfl, Nat.le_of_ble_eq_true rfl⟩) (preVX hCX hS hLo hP (ci := 7) (q0 := 0) rfl rfl) rfl rfl hl.1 rfl (lv_room (Nat.le_of_ble_eq_true rfl)) dL_runText_3 ⟨Nat.le_of_ble_eq_true rfl, Nat.le_of_ble_eq_true rfl⟩) hP hS hown htab [] ⟨0, 8, 11, 28⟩ [] rfl (fun z hz => nomatch hz) (by decide) (by decide) (hts (.classLink RL 28 "java/lang/IllegalStateException") (by decide +kernel)) (hC.nest 82 rfl) (fun q_1 H locs hP hS => ?_)
  refine lv_astore_n (lv' := [(2, .ref q_1), (0, .ref (a 0)), (1, .ref oa)]) hx hb dL_runText_11 rfl hl (by decide) rfl (fun ls hl => ?_)
  refine lv_iconst (v := nI (1)) hx hb dL_runText_12 (by decide) ?_
  exact xMi (G := G) (post := (fun (r : Int32) (u : Unit) => r = nI 1)) (w1 := (fun (u : Unit) => xW G a v mo ki pr df co bi g9 lr bf tn ln nx ct hv v0 k0 v1 k1 ++ [(oa, .inl (cL G, 1, .inr (.inl of)))])) (()) hx hb hr hlocks hP hS (by exact rfl) (by exact rfl) dL_runText_13

set_option maxHeartbeats 4000000 in
set_option maxRecDepth 100000 in
theorem c_L_undo_1 {l : Launch} {G : GT} {H0 : Heap} (a : Nat → Nat) (v : SVT) (mo ki : Nat → Nat) (pr df : Nat → Int) (co : Int32) (bi : Nat) (g9 : Nat → Int32) (lr : Nat) (bf : Nat → Int) (tn : Nat → Nat) (ln nx ct : Nat) (hv : Nat → SVT) (v0 : SVT) (k0 : Nat) (v1 : SVT) (k1 : Nat) (oa : Nat) (of : Nat → Int64) (hct : ct = 0) (hfl : l.stackTraces = false) (hP0 : PP G (xW G a v mo ki pr df co bi g9 lr bf tn ln nx ct hv v0 k0 v1 k1 ++ [(oa, .inl (cL G, 1, .inr (.inl of)))]) H0) (hB0 : va_D (lo G) (xW G a v mo ki pr df co bi g9 lr bf tn ln nx ct hv v0 k0 v1 k1 ++ [(oa, .inl (cL G, 1, .inr (.inl of)))])) : Met l yL_undo wsL_undo ({ frames := 7, cells := 1, slots := 6, locals := 102 } : Room) (pcX G [.ref (a 0), .ref oa] H0) (qMi G (fun (r : Int32) (u : Unit) => r = nI 1) (fun (u : Unit) => xW G a v mo ki pr df co bi g9 lr bf tn ln nx ct hv v0 k0 v1 k1 ++ [(oa, .inl (cL G, 1, .inr (.inl of)))]) (xW G a v mo ki pr df co bi g9 lr bf tn ln nx ct hv v0 k0 v1 k1 ++ [(oa, .inl (cL G, 1, .inr (.inl of)))]) H0) 1 6 (va_A (xW G a v mo ki pr df co bi g9 lr bf tn ln nx ct hv v0 k0 v1 k1 ++ [(oa, .inl (cL G, 1, .inr (.inl of)))]) H0.size) := by
  refine enterHX (cc := cL_undo) (maxL := 3) (ret := some .int) (own := RL) (lv := [(0, .ref (a 0)), (1, .ref oa)]) (by decide) rfl rfl rfl (Nat.le_of_ble_eq_true rfl) ?_
  intro pg ev s m below meth c hx hb hr hts hown hlocks hml htab hH hCX ls hl
  subst hH
  have hC := hCX.1
  have hLo := va_freeB hB0 hC.2.2.2.1
  have hD := hB0.self (sz := s.heap.size)
  have hS : va_S (va_A (xW G a v mo ki pr df co bi g9 lr bf tn ln nx ct hv v0 k0 v1 k1 ++ [(oa, .inl (cL G, 1, .inr (.inl of)))]) s.heap.size) s.heap s.heap [] := va_S.rf
  unfold qMi
  generalize hAe : va_A (xW G a v mo ki pr df co bi g9 lr bf tn ln nx ct hv v0 k0 v1 k1 ++ [(oa, .inl (cL G, 1, .inr (.inl of)))]) s.heap.size = A at hD hLo hS ⊢
  have hA : ∀ q, s.heap.size ≤ q → A q := fun q h => by rw [← hAe]; exact Or.inr h
  generalize ([] : List Loc) = locs at hS ⊢
  have hP := hP0
  refine lv_aload_n hx hb dL_undo_0 rfl (lv_at hl 1 rfl) ?_
  refine lv_iconst (v := nI (0)) hx hb dL_undo_1 (by decide) ?_
  refine lv_aload_n hx hb dL_undo_2 rfl (lv_at hl 0 rfl) ?_
  refine tCatch (hh := [(0, 8, 11, 28)]) (own := RL) (name := "java/lang/IllegalStateException") (vx_runV (As := []) (rest := [.int (nI (0)), .ref oa]) ⟨hx, hb, hml, hown, hts⟩ (c_X8_undo_x1 a nx ct (by first | assumption | omega) hfl (xW_his (pre_P hP))) (cwV 0 hts gL_undo_X8_undo rfl rfl rfl (by decide +kernel) ⟨Nat.le_of_ble_eq_true rfl, Nat.le_of_ble_eq_true rfl⟩) (preVX hCX hS hLo hP (ci := 7) (q0 := 0) rfl rfl) rfl rfl hl.1 rfl (lv_room (Nat.le_of_ble_eq_true rfl)) dL_undo_3 ⟨Nat.le_of_ble_eq_true rfl, Nat.le_of_ble_eq_true rfl⟩) hP hS hown htab [] ⟨0, 8, 11, 28⟩ [] rfl (fun z hz => nomatch hz) (by decide) (by decide) (hts (.classLink RL 28 "java/lang/IllegalStateException") (by decide +kernel)) (hC.nest 82 rfl) (fun q_1 H locs hP hS => ?_)
  refine lv_astore_n (lv' := [(2, .ref q_1), (0, .ref (a 0)), (1, .ref oa)]) hx hb dL_undo_11 rfl hl (by decide) rfl (fun ls hl => ?_)
  refine lv_iconst (v := nI (1)) hx hb dL_undo_12 (by decide) ?_
  exact xMi (G := G) (post := (fun (r : Int32) (u : Unit) => r = nI 1)) (w1 := (fun (u : Unit) => xW G a v mo ki pr df co bi g9 lr bf tn ln nx ct hv v0 k0 v1 k1 ++ [(oa, .inl (cL G, 1, .inr (.inl of)))])) (()) hx hb hr hlocks hP hS (by exact rfl) (by exact rfl) dL_undo_13

set_option maxHeartbeats 4000000 in
set_option maxRecDepth 100000 in
theorem c_L_kindWith_2 {l : Launch} {G : GT} {H0 : Heap} (a : Nat → Nat) (v : SVT) (mo ki : Nat → Nat) (pr df : Nat → Int) (co : Int32) (bi : Nat) (g9 : Nat → Int32) (lr : Nat) (bf : Nat → Int) (tn : Nat → Nat) (ln nx ct : Nat) (hv : Nat → SVT) (v0 : SVT) (k0 : Nat) (v1 : SVT) (k1 : Nat) (oa : Nat) (of : Nat → Int64) (p : Nat) (x0 : Int32) (hp : p < 4) (hbad : x0.toInt < 1 ∨ 8 < x0.toInt) (hfl : l.stackTraces = false) (hP0 : PP G (xW G a v mo ki pr df co bi g9 lr bf tn ln nx ct hv v0 k0 v1 k1 ++ [(oa, .inl (cL G, 1, .inr (.inl of)))]) H0) (hB0 : va_D (lo G) (xW G a v mo ki pr df co bi g9 lr bf tn ln nx ct hv v0 k0 v1 k1 ++ [(oa, .inl (cL G, 1, .inr (.inl of)))])) : Met l yL_kindWith wsL_kindWith ({ frames := 8, cells := 1, slots := 6, locals := 126 } : Room) (pcX G [.ref (a 0), .int (nI (p)), .int (x0), .ref oa] H0) (qMi G (fun (r : Int32) (u : Unit) => r = nI 2) (fun (u : Unit) => xW G a v mo ki pr df co bi g9 lr bf tn ln nx ct hv v0 k0 v1 k1 ++ [(oa, .inl (cL G, 1, .inr (.inl of)))]) (xW G a v mo ki pr df co bi g9 lr bf tn ln nx ct hv v0 k0 v1 k1 ++ [(oa, .inl (cL G, 1, .inr (.inl of)))]) H0) 1 6 (va_A (xW G a v mo ki pr df co bi g9 lr bf tn ln nx ct hv v0 k0 v1 k1 ++ [(oa, .inl (cL G, 1, .inr (.inl of)))]) H0.size) := by
  refine enterHX (cc := cL_kindWith) (maxL := 5) (ret := some .int) (own := RL) (lv := [(0, .ref (a 0)), (1, .int (nI (p))), (2, .int (x0)), (3, .ref oa)]) (by decide) rfl rfl rfl (Nat.le_of_ble_eq_true rfl) ?_
  intro pg ev s m below meth c hx hb hr hts hown hlocks hml htab hH hCX ls hl
  subst hH
  have hC := hCX.1
  have hLo := va_freeB hB0 hC.2.2.2.1
  have hD := hB0.self (sz := s.heap.size)
  have hS : va_S (va_A (xW G a v mo ki pr df co bi g9 lr bf tn ln nx ct hv v0 k0 v1 k1 ++ [(oa, .inl (cL G, 1, .inr (.inl of)))]) s.heap.size) s.heap s.heap [] := va_S.rf
  unfold qMi
  generalize hAe : va_A (xW G a v mo ki pr df co bi g9 lr bf tn ln nx ct hv v0 k0 v1 k1 ++ [(oa, .inl (cL G, 1, .inr (.inl of)))]) s.heap.size = A at hD hLo hS ⊢
  have hA : ∀ q, s.heap.size ≤ q → A q := fun q h => by rw [← hAe]; exact Or.inr h
  generalize ([] : List Loc) = locs at hS ⊢
  have hP := hP0
  refine lv_aload_n hx hb dL_kindWith_0 rfl (lv_at hl 3 rfl) ?_
  refine lv_iconst (v := nI (0)) hx hb dL_kindWith_1 (by decide) ?_
  refine lv_aload_n hx hb dL_kindWith_2 rfl (lv_at hl 0 rfl) ?_
  refine lv_iload_n hx hb dL_kindWith_3 rfl (lv_at hl 1 rfl) ?_
  refine lv_iload_n hx hb dL_kindWith_4 rfl (lv_at hl 2 rfl) ?_
  refine tCatch (hh := [(0, 10, 13, 13), (0, 10, 17, 15)]) (own := RL) (name := "java/lang/IllegalArgumentException") (vx_runV (As := [.int (nI (p)), .int (x0)]) (rest := [.int (nI (0)), .ref oa]) ⟨hx, hb, hml, hown, hts⟩ (c_X8_kindWith_x2 (a 0) p x0 (by first | assumption | omega) (by first | assumption | omega) hfl) (cwV 2 hts gL_kindWith_X8_kindWith rfl rfl rfl (by decide +kernel) ⟨Nat.le_of_ble_eq_true rfl, Nat.le_of_ble_eq_true rfl⟩) (preVX hCX hS hLo hP (ci := 7) (q0 := 0) rfl rfl) rfl rfl hl.1 rfl (lv_room (Nat.le_of_ble_eq_true rfl)) dL_kindWith_5 ⟨Nat.le_of_ble_eq_true rfl, Nat.le_of_ble_eq_true rfl⟩) hP hS hown htab [⟨0, 10, 13, 13⟩] ⟨0, 10, 17, 15⟩ [] rfl (fun z hz => by rcases List.mem_singleton.mp hz with rfl; exact Or.inr ⟨by decide, "java/lang/IndexOutOfBoundsException", (hts (.classLink RL 13 "java/lang/IndexOutOfBoundsException") (by decide +kernel)), hC.nc 0 rfl⟩) (by decide) (by decide) (hts (.classLink RL 15 "java/lang/IllegalArgumentException") (by decide +kernel)) (hC.nest 81 rfl) (fun q_1 H locs hP hS => ?_)
  refine lv_astore (lv' := [(4, .ref q_1), (0, .ref (a 0)), (1, .int (nI (p))), (2, .int (x0)), (3, .ref oa)]) hx hb dL_kindWith_17 hl (by decide) rfl (fun ls hl => ?_)
  refine lv_iconst (v := nI (2)) hx hb dL_kindWith_19 (by decide) ?_
  exact xMi (G := G) (post := (fun (r : Int32) (u : Unit) => r = nI 2)) (w1 := (fun (u : Unit) => xW G a v mo ki pr df co bi g9 lr bf tn ln nx ct hv v0 k0 v1 k1 ++ [(oa, .inl (cL G, 1, .inr (.inl of)))])) (()) hx hb hr hlocks hP hS (by exact rfl) (by exact rfl) dL_kindWith_20

set_option maxHeartbeats 4000000 in
set_option maxRecDepth 100000 in
theorem c_L_bitsWith_2 {l : Launch} {G : GT} {H0 : Heap} (a : Nat → Nat) (v : SVT) (mo ki : Nat → Nat) (pr df : Nat → Int) (co : Int32) (bi : Nat) (g9 : Nat → Int32) (lr : Nat) (bf : Nat → Int) (tn : Nat → Nat) (ln nx ct : Nat) (hv : Nat → SVT) (v0 : SVT) (k0 : Nat) (v1 : SVT) (k1 : Nat) (oa : Nat) (of : Nat → Int64) (p : Nat) (x0 : Int32) (hp : p < 4) (hbad : x0.toInt < 1 ∨ 8 < x0.toInt) (hfl : l.stackTraces = false) (hP0 : PP G (xW G a v mo ki pr df co bi g9 lr bf tn ln nx ct hv v0 k0 v1 k1 ++ [(oa, .inl (cL G, 1, .inr (.inl of)))]) H0) (hB0 : va_D (lo G) (xW G a v mo ki pr df co bi g9 lr bf tn ln nx ct hv v0 k0 v1 k1 ++ [(oa, .inl (cL G, 1, .inr (.inl of)))])) : Met l yL_bitsWith wsL_bitsWith ({ frames := 8, cells := 1, slots := 6, locals := 126 } : Room) (pcX G [.ref (a 0), .int (nI (p)), .int (x0), .ref oa] H0) (qMi G (fun (r : Int32) (u : Unit) => r = nI 2) (fun (u : Unit) => xW G a v mo ki pr df co bi g9 lr bf tn ln nx ct hv v0 k0 v1 k1 ++ [(oa, .inl (cL G, 1, .inr (.inl of)))]) (xW G a v mo ki pr df co bi g9 lr bf tn ln nx ct hv v0 k0 v1 k1 ++ [(oa, .inl (cL G, 1, .inr (.inl of)))]) H0) 1 6 (va_A (xW G a v mo ki pr df co bi g9 lr bf tn ln nx ct hv v0 k0 v1 k1 ++ [(oa, .inl (cL G, 1, .inr (.inl of)))]) H0.size) := by
  refine enterHX (cc := cL_bitsWith) (maxL := 5) (ret := some .int) (own := RL) (lv := [(0, .ref (a 0)), (1, .int (nI (p))), (2, .int (x0)), (3, .ref oa)]) (by decide) rfl rfl rfl (Nat.le_of_ble_eq_true rfl) ?_
  intro pg ev s m below meth c hx hb hr hts hown hlocks hml htab hH hCX ls hl
  subst hH
  have hC := hCX.1
  have hLo := va_freeB hB0 hC.2.2.2.1
  have hD := hB0.self (sz := s.heap.size)
  have hS : va_S (va_A (xW G a v mo ki pr df co bi g9 lr bf tn ln nx ct hv v0 k0 v1 k1 ++ [(oa, .inl (cL G, 1, .inr (.inl of)))]) s.heap.size) s.heap s.heap [] := va_S.rf
  unfold qMi
  generalize hAe : va_A (xW G a v mo ki pr df co bi g9 lr bf tn ln nx ct hv v0 k0 v1 k1 ++ [(oa, .inl (cL G, 1, .inr (.inl of)))]) s.heap.size = A at hD hLo hS ⊢
  have hA : ∀ q, s.heap.size ≤ q → A q := fun q h => by rw [← hAe]; exact Or.inr h
  generalize ([] : List Loc) = locs at hS ⊢
  have hP := hP0
  refine lv_aload_n hx hb dL_bitsWith_0 rfl (lv_at hl 3 rfl) ?_
  refine lv_iconst (v := nI (0)) hx hb dL_bitsWith_1 (by decide) ?_
  refine lv_aload_n hx hb dL_bitsWith_2 rfl (lv_at hl 0 rfl) ?_
  refine lv_iload_n hx hb dL_bitsWith_3 rfl (lv_at hl 1 rfl) ?_
  refine lv_iload_n hx hb dL_bitsWith_4 rfl (lv_at hl 2 rfl) ?_
  refine tCatch (hh := [(0, 10, 13, 13), (0, 10, 17, 15)]) (own := RL) (name := "java/lang/IllegalArgumentException") (vx_runV (As := [.int (nI (p)), .int (x0)]) (rest := [.int (nI (0)), .ref oa]) ⟨hx, hb, hml, hown, hts⟩ (c_X8_bitsWith_x2 (a 0) p x0 (by first | assumption | omega) (by first | assumption | omega) hfl) (cwV 2 hts gL_bitsWith_X8_bitsWith rfl rfl rfl (by decide +kernel) ⟨Nat.le_of_ble_eq_true rfl, Nat.le_of_ble_eq_true rfl⟩) (preVX hCX hS hLo hP (ci := 7) (q0 := 0) rfl rfl) rfl rfl hl.1 rfl (lv_room (Nat.le_of_ble_eq_true rfl)) dL_bitsWith_5 ⟨Nat.le_of_ble_eq_true rfl, Nat.le_of_ble_eq_true rfl⟩) hP hS hown htab [⟨0, 10, 13, 13⟩] ⟨0, 10, 17, 15⟩ [] rfl (fun z hz => by rcases List.mem_singleton.mp hz with rfl; exact Or.inr ⟨by decide, "java/lang/IndexOutOfBoundsException", (hts (.classLink RL 13 "java/lang/IndexOutOfBoundsException") (by decide +kernel)), hC.nc 0 rfl⟩) (by decide) (by decide) (hts (.classLink RL 15 "java/lang/IllegalArgumentException") (by decide +kernel)) (hC.nest 81 rfl) (fun q_1 H locs hP hS => ?_)
  refine lv_astore (lv' := [(4, .ref q_1), (0, .ref (a 0)), (1, .int (nI (p))), (2, .int (x0)), (3, .ref oa)]) hx hb dL_bitsWith_17 hl (by decide) rfl (fun ls hl => ?_)
  refine lv_iconst (v := nI (2)) hx hb dL_bitsWith_19 (by decide) ?_
  exact xMi (G := G) (post := (fun (r : Int32) (u : Unit) => r = nI 2)) (w1 := (fun (u : Unit) => xW G a v mo ki pr df co bi g9 lr bf tn ln nx ct hv v0 k0 v1 k1 ++ [(oa, .inl (cL G, 1, .inr (.inl of)))])) (()) hx hb hr hlocks hP hS (by exact rfl) (by exact rfl) dL_bitsWith_20

set_option maxHeartbeats 4000000 in
set_option maxRecDepth 100000 in
theorem c_L_bitsByWriting_2 {l : Launch} {G : GT} {H0 : Heap} (a : Nat → Nat) (v : SVT) (mo ki : Nat → Nat) (pr df : Nat → Int) (co : Int32) (bi : Nat) (g9 : Nat → Int32) (lr : Nat) (bf : Nat → Int) (tn : Nat → Nat) (ln nx ct : Nat) (hv : Nat → SVT) (v0 : SVT) (k0 : Nat) (v1 : SVT) (k1 : Nat) (oa : Nat) (of : Nat → Int64) (p : Nat) (x0 : Int32) (hp : p < 4) (hbad : x0.toInt < 1 ∨ 8 < x0.toInt) (hfl : l.stackTraces = false) (hP0 : PP G (xW G a v mo ki pr df co bi g9 lr bf tn ln nx ct hv v0 k0 v1 k1 ++ [(oa, .inl (cL G, 1, .inr (.inl of)))]) H0) (hB0 : va_D (lo G) (xW G a v mo ki pr df co bi g9 lr bf tn ln nx ct hv v0 k0 v1 k1 ++ [(oa, .inl (cL G, 1, .inr (.inl of)))])) : Met l yL_bitsByWriting wsL_bitsByWriting ({ frames := 8, cells := 1, slots := 6, locals := 126 } : Room) (pcX G [.ref (a 0), .int (nI (p)), .int (x0), .ref oa] H0) (qMi G (fun (r : Int32) (u : Unit) => r = nI 2) (fun (u : Unit) => xW G a v mo ki pr df co bi g9 lr bf tn ln nx ct hv v0 k0 v1 k1 ++ [(oa, .inl (cL G, 1, .inr (.inl of)))]) (xW G a v mo ki pr df co bi g9 lr bf tn ln nx ct hv v0 k0 v1 k1 ++ [(oa, .inl (cL G, 1, .inr (.inl of)))]) H0) 1 6 (va_A (xW G a v mo ki pr df co bi g9 lr bf tn ln nx ct hv v0 k0 v1 k1 ++ [(oa, .inl (cL G, 1, .inr (.inl of)))]) H0.size) := by
  refine enterHX (cc := cL_bitsByWriting) (maxL := 5) (ret := some .int) (own := RL) (lv := [(0, .ref (a 0)), (1, .int (nI (p))), (2, .int (x0)), (3, .ref oa)]) (by decide) rfl rfl rfl (Nat.le_of_ble_eq_true rfl) ?_
  intro pg ev s m below meth c hx hb hr hts hown hlocks hml htab hH hCX ls hl
  subst hH
  have hC := hCX.1
  have hLo := va_freeB hB0 hC.2.2.2.1
  have hD := hB0.self (sz := s.heap.size)
  have hS : va_S (va_A (xW G a v mo ki pr df co bi g9 lr bf tn ln nx ct hv v0 k0 v1 k1 ++ [(oa, .inl (cL G, 1, .inr (.inl of)))]) s.heap.size) s.heap s.heap [] := va_S.rf
  unfold qMi
  generalize hAe : va_A (xW G a v mo ki pr df co bi g9 lr bf tn ln nx ct hv v0 k0 v1 k1 ++ [(oa, .inl (cL G, 1, .inr (.inl of)))]) s.heap.size = A at hD hLo hS ⊢
  have hA : ∀ q, s.heap.size ≤ q → A q := fun q h => by rw [← hAe]; exact Or.inr h
  generalize ([] : List Loc) = locs at hS ⊢
  have hP := hP0
  refine lv_aload_n hx hb dL_bitsByWriting_0 rfl (lv_at hl 3 rfl) ?_
  refine lv_iconst (v := nI (0)) hx hb dL_bitsByWriting_1 (by decide) ?_
  refine lv_aload_n hx hb dL_bitsByWriting_2 rfl (lv_at hl 0 rfl) ?_
  refine lv_iload_n hx hb dL_bitsByWriting_3 rfl (lv_at hl 1 rfl) ?_
  refine lv_iload_n hx hb dL_bitsByWriting_4 rfl (lv_at hl 2 rfl) ?_
  refine tCatch (hh := [(0, 10, 13, 13), (0, 10, 17, 15)]) (own := RL) (name := "java/lang/IllegalArgumentException") (vx_runV (As := [.int (nI (p)), .int (x0)]) (rest := [.int (nI (0)), .ref oa]) ⟨hx, hb, hml, hown, hts⟩ (c_X8_bitsByWriting_x2 (a 0) p x0 (by first | assumption | omega) (by first | assumption | omega) hfl) (cwV 2 hts gL_bitsByWriting_X8_bitsByWriting rfl rfl rfl (by decide +kernel) ⟨Nat.le_of_ble_eq_true rfl, Nat.le_of_ble_eq_true rfl⟩) (preVX hCX hS hLo hP (ci := 7) (q0 := 0) rfl rfl) rfl rfl hl.1 rfl (lv_room (Nat.le_of_ble_eq_true rfl)) dL_bitsByWriting_5 ⟨Nat.le_of_ble_eq_true rfl, Nat.le_of_ble_eq_true rfl⟩) hP hS hown htab [⟨0, 10, 13, 13⟩] ⟨0, 10, 17, 15⟩ [] rfl (fun z hz => by rcases List.mem_singleton.mp hz with rfl; exact Or.inr ⟨by decide, "java/lang/IndexOutOfBoundsException", (hts (.classLink RL 13 "java/lang/IndexOutOfBoundsException") (by decide +kernel)), hC.nc 0 rfl⟩) (by decide) (by decide) (hts (.classLink RL 15 "java/lang/IllegalArgumentException") (by decide +kernel)) (hC.nest 81 rfl) (fun q_1 H locs hP hS => ?_)
  refine lv_astore (lv' := [(4, .ref q_1), (0, .ref (a 0)), (1, .int (nI (p))), (2, .int (x0)), (3, .ref oa)]) hx hb dL_bitsByWriting_17 hl (by decide) rfl (fun ls hl => ?_)
  refine lv_iconst (v := nI (2)) hx hb dL_bitsByWriting_19 (by decide) ?_
  exact xMi (G := G) (post := (fun (r : Int32) (u : Unit) => r = nI 2)) (w1 := (fun (u : Unit) => xW G a v mo ki pr df co bi g9 lr bf tn ln nx ct hv v0 k0 v1 k1 ++ [(oa, .inl (cL G, 1, .inr (.inl of)))])) (()) hx hb hr hlocks hP hS (by exact rfl) (by exact rfl) dL_bitsByWriting_20

set_option maxHeartbeats 4000000 in
set_option maxRecDepth 100000 in
theorem c_L_distance_1b {l : Launch} {G : GT} {H0 : Heap} (a : Nat → Nat) (v : SVT) (mo ki : Nat → Nat) (pr df : Nat → Int) (co : Int32) (bi : Nat) (g9 : Nat → Int32) (lr : Nat) (bf : Nat → Int) (tn : Nat → Nat) (ln nx ct : Nat) (hv : Nat → SVT) (v0 : SVT) (k0 : Nat) (v1 : SVT) (k1 : Nat) (oa : Nat) (of : Nat → Int64) (p : Nat) (x0 : Int32) (hp : p < 4) (hbad : x0.toInt < 0 ∨ 25 ≤ x0.toInt) (hfl : l.stackTraces = false) (hP0 : PP G (xW G a v mo ki pr df co bi g9 lr bf tn ln nx ct hv v0 k0 v1 k1 ++ [(oa, .inl (cL G, 1, .inr (.inl of)))]) H0) (hB0 : va_D (lo G) (xW G a v mo ki pr df co bi g9 lr bf tn ln nx ct hv v0 k0 v1 k1 ++ [(oa, .inl (cL G, 1, .inr (.inl of)))])) : Met l yL_distance wsL_distance ({ frames := 7, cells := 1, slots := 6, locals := 104 } : Room) (pcX G [.ref (a 0), .int (nI (p)), .int (x0), .ref oa] H0) (qMi G (fun (r : Int32) (u : Unit) => r = nI 1) (fun (u : Unit) => xW G a v mo ki pr df co bi g9 lr bf tn ln nx ct hv v0 k0 v1 k1 ++ [(oa, .inl (cL G, 1, .inr (.inl of)))]) (xW G a v mo ki pr df co bi g9 lr bf tn ln nx ct hv v0 k0 v1 k1 ++ [(oa, .inl (cL G, 1, .inr (.inl of)))]) H0) 1 6 (va_A (xW G a v mo ki pr df co bi g9 lr bf tn ln nx ct hv v0 k0 v1 k1 ++ [(oa, .inl (cL G, 1, .inr (.inl of)))]) H0.size) := by
  refine enterHX (cc := cL_distance) (maxL := 5) (ret := some .int) (own := RL) (lv := [(0, .ref (a 0)), (1, .int (nI (p))), (2, .int (x0)), (3, .ref oa)]) (by decide) rfl rfl rfl (Nat.le_of_ble_eq_true rfl) ?_
  intro pg ev s m below meth c hx hb hr hts hown hlocks hml htab hH hCX ls hl
  subst hH
  have hC := hCX.1
  have hLo := va_freeB hB0 hC.2.2.2.1
  have hD := hB0.self (sz := s.heap.size)
  have hS : va_S (va_A (xW G a v mo ki pr df co bi g9 lr bf tn ln nx ct hv v0 k0 v1 k1 ++ [(oa, .inl (cL G, 1, .inr (.inl of)))]) s.heap.size) s.heap s.heap [] := va_S.rf
  unfold qMi
  generalize hAe : va_A (xW G a v mo ki pr df co bi g9 lr bf tn ln nx ct hv v0 k0 v1 k1 ++ [(oa, .inl (cL G, 1, .inr (.inl of)))]) s.heap.size = A at hD hLo hS ⊢
  have hA : ∀ q, s.heap.size ≤ q → A q := fun q h => by rw [← hAe]; exact Or.inr h
  generalize ([] : List Loc) = locs at hS ⊢
  have hP := hP0
  refine lv_aload_n hx hb dL_distance_0 rfl (lv_at hl 3 rfl) ?_
  refine lv_iconst (v := nI (0)) hx hb dL_distance_1 (by decide) ?_
  refine lv_aload_n hx hb dL_distance_2 rfl (lv_at hl 0 rfl) ?_
  refine lv_iload_n hx hb dL_distance_3 rfl (lv_at hl 1 rfl) ?_
  refine lv_iload_n hx hb dL_distance_4 rfl (lv_at hl 2 rfl) ?_
  refine tCatch (hh := [(0, 10, 13, 13)]) (own := RL) (name := "java/lang/IndexOutOfBoundsException") (vx_runV (As := [.int (nI (p)), .int (x0)]) (rest := [.int (nI (0)), .ref oa]) ⟨hx, hb, hml, hown, hts⟩ (c_X8_distance_x2 (a 0) p x0 (by first | assumption | omega) (by first | assumption | omega) hfl) (cwV 2 hts gL_distance_X8_distance rfl rfl rfl (by decide +kernel) ⟨Nat.le_of_ble_eq_true rfl, Nat.le_of_ble_eq_true rfl⟩) (preVX hCX hS hLo hP (ci := 7) (q0 := 0) rfl rfl) rfl rfl hl.1 rfl (lv_room (Nat.le_of_ble_eq_true rfl)) dL_distance_5 ⟨Nat.le_of_ble_eq_true rfl, Nat.le_of_ble_eq_true rfl⟩) hP hS hown htab [] ⟨0, 10, 13, 13⟩ [] rfl (fun z hz => nomatch hz) (by decide) (by decide) (hts (.classLink RL 13 "java/lang/IndexOutOfBoundsException") (by decide +kernel)) (hC.nest 80 rfl) (fun q_1 H locs hP hS => ?_)
  refine lv_astore (lv' := [(4, .ref q_1), (0, .ref (a 0)), (1, .int (nI (p))), (2, .int (x0)), (3, .ref oa)]) hx hb dL_distance_13 hl (by decide) rfl (fun ls hl => ?_)
  refine lv_iconst (v := nI (1)) hx hb dL_distance_15 (by decide) ?_
  exact xMi (G := G) (post := (fun (r : Int32) (u : Unit) => r = nI 1)) (w1 := (fun (u : Unit) => xW G a v mo ki pr df co bi g9 lr bf tn ln nx ct hv v0 k0 v1 k1 ++ [(oa, .inl (cL G, 1, .inr (.inl of)))])) (()) hx hb hr hlocks hP hS (by exact rfl) (by exact rfl) dL_distance_16

set_option maxHeartbeats 4000000 in
set_option maxRecDepth 100000 in
theorem c_L_appendText_1 {l : Launch} {G : GT} {H0 : Heap} (a : Nat → Nat) (v : SVT) (mo ki : Nat → Nat) (pr df : Nat → Int) (co : Int32) (bi : Nat) (g9 : Nat → Int32) (lr : Nat) (bf : Nat → Int) (tn : Nat → Nat) (ln nx ct : Nat) (hv : Nat → SVT) (v0 : SVT) (k0 : Nat) (v1 : SVT) (k1 : Nat) (oa : Nat) (of : Nat → Int64) (cu : Nat) (hu : cu < 2 ^ 64) (hcs : CS cu = 0) (hfl : l.stackTraces = false) (hP0 : PP G (xW G a v mo ki pr df co bi g9 lr bf tn ln nx ct hv v0 k0 v1 k1 ++ [(oa, .inl (cL G, 1, .inr (.inl of)))]) H0) (hB0 : va_D (lo G) (xW G a v mo ki pr df co bi g9 lr bf tn ln nx ct hv v0 k0 v1 k1 ++ [(oa, .inl (cL G, 1, .inr (.inl of)))])) : Met l yL_appendText wsL_appendText ({ frames := 7, cells := 1, slots := 6, locals := 105 } : Room) (pcX G [.ref (a 0), .long (lN cu), .ref oa] H0) (qMi G (fun (r : Int32) (u : Unit) => r = nI 1) (fun (u : Unit) => xW G a v mo ki pr df co bi g9 lr bf tn ln nx ct hv v0 k0 v1 k1 ++ [(oa, .inl (cL G, 1, .inr (.inl of)))]) (xW G a v mo ki pr df co bi g9 lr bf tn ln nx ct hv v0 k0 v1 k1 ++ [(oa, .inl (cL G, 1, .inr (.inl of)))]) H0) 1 6 (va_A (xW G a v mo ki pr df co bi g9 lr bf tn ln nx ct hv v0 k0 v1 k1 ++ [(oa, .inl (cL G, 1, .inr (.inl of)))]) H0.size) := by
  refine enterHX (cc := cL_appendText) (maxL := 5) (ret := some .int) (own := RL) (lv := [(0, .ref (a 0)), (1, .long (lN cu)), (3, .ref oa)]) (by decide) rfl rfl rfl (Nat.le_of_ble_eq_true rfl) ?_
  intro pg ev s m below meth c hx hb hr hts hown hlocks hml htab hH hCX ls hl
  subst hH
  have hC := hCX.1
  have hLo := va_freeB hB0 hC.2.2.2.1
  have hD := hB0.self (sz := s.heap.size)
  have hS : va_S (va_A (xW G a v mo ki pr df co bi g9 lr bf tn ln nx ct hv v0 k0 v1 k1 ++ [(oa, .inl (cL G, 1, .inr (.inl of)))]) s.heap.size) s.heap s.heap [] := va_S.rf
  unfold qMi
  generalize hAe : va_A (xW G a v mo ki pr df co bi g9 lr bf tn ln nx ct hv v0 k0 v1 k1 ++ [(oa, .inl (cL G, 1, .inr (.inl of)))]) s.heap.size = A at hD hLo hS ⊢
  have hA : ∀ q, s.heap.size ≤ q → A q := fun q h => by rw [← hAe]; exact Or.inr h
  generalize ([] : List Loc) = locs at hS ⊢
  have hP := hP0
  refine lv_aload_n hx hb dL_appendText_0 rfl (lv_at hl 2 rfl) ?_
  refine lv_iconst (v := nI (0)) hx hb dL_appendText_1 (by decide) ?_
  refine lv_aload_n hx hb dL_appendText_2 rfl (lv_at hl 0 rfl) ?_
  refine lv_lload_n hx hb dL_appendText_3 rfl (lv_at hl 1 rfl) ?_
  refine tCatch (hh := [(0, 9, 12, 15), (0, 9, 16, 28)]) (own := RL) (name := "java/lang/IllegalArgumentException") (vx_runV (As := [.long (lN cu)]) (rest := [.int (nI (0)), .ref oa]) ⟨hx, hb, hml, hown, hts⟩ (c_X8_appendText_x1 (a 0) cu (by first | assumption | omega) (by first | assumption | omega) hfl) (cwV 1 hts gL_appendText_X8_appendText rfl rfl rfl (by decide +kernel) ⟨Nat.le_of_ble_eq_true rfl, Nat.le_of_ble_eq_true rfl⟩) (preVX hCX hS hLo hP (ci := 7) (q0 := 0) rfl rfl) rfl rfl hl.1 rfl (lv_room (Nat.le_of_ble_eq_true rfl)) dL_appendText_4 ⟨Nat.le_of_ble_eq_true rfl, Nat.le_of_ble_eq_true rfl⟩) hP hS hown htab [] ⟨0, 9, 12, 15⟩ [⟨0, 9, 16, 28⟩] rfl (fun z hz => nomatch hz) (by decide) (by decide) (hts (.classLink RL 15 "java/lang/IllegalArgumentException") (by decide +kernel)) (hC.nest 81 rfl) (fun q_1 H locs hP hS => ?_)
  refine lv_astore (lv' := [(4, .ref q_1), (0, .ref (a 0)), (1, .long (lN cu)), (3, .ref oa)]) hx hb dL_appendText_12 hl (by decide) rfl (fun ls hl => ?_)
  refine lv_iconst (v := nI (1)) hx hb dL_appendText_14 (by decide) ?_
  exact xMi (G := G) (post := (fun (r : Int32) (u : Unit) => r = nI 1)) (w1 := (fun (u : Unit) => xW G a v mo ki pr df co bi g9 lr bf tn ln nx ct hv v0 k0 v1 k1 ++ [(oa, .inl (cL G, 1, .inr (.inl of)))])) (()) hx hb hr hlocks hP hS (by exact rfl) (by exact rfl) dL_appendText_15

set_option maxHeartbeats 4000000 in
set_option maxRecDepth 100000 in
theorem c_L_appendText_2 {l : Launch} {G : GT} {H0 : Heap} (a : Nat → Nat) (v : SVT) (mo ki : Nat → Nat) (pr df : Nat → Int) (co : Int32) (bi : Nat) (g9 : Nat → Int32) (lr : Nat) (bf : Nat → Int) (tn : Nat → Nat) (ln nx ct : Nat) (hv : Nat → SVT) (v0 : SVT) (k0 : Nat) (v1 : SVT) (k1 : Nat) (oa : Nat) (of : Nat → Int64) (cu : Nat) (hu : cu < 2 ^ 64) (hcs : ¬ CS cu = 0) (hln : ln ≤ 80) (hlk : 80 < ln + CS cu) (hfl : l.stackTraces = false) (hP0 : PP G (xW G a v mo ki pr df co bi g9 lr bf tn ln nx ct hv v0 k0 v1 k1 ++ [(oa, .inl (cL G, 1, .inr (.inl of)))]) H0) (hB0 : va_D (lo G) (xW G a v mo ki pr df co bi g9 lr bf tn ln nx ct hv v0 k0 v1 k1 ++ [(oa, .inl (cL G, 1, .inr (.inl of)))])) : Met l yL_appendText wsL_appendText ({ frames := 7, cells := 1, slots := 6, locals := 105 } : Room) (pcX G [.ref (a 0), .long (lN cu), .ref oa] H0) (qMi G (fun (r : Int32) (u : Unit) => r = nI 2) (fun (u : Unit) => xW G a v mo ki pr df co bi g9 lr bf tn ln nx ct hv v0 k0 v1 k1 ++ [(oa, .inl (cL G, 1, .inr (.inl of)))]) (xW G a v mo ki pr df co bi g9 lr bf tn ln nx ct hv v0 k0 v1 k1 ++ [(oa, .inl (cL G, 1, .inr (.inl of)))]) H0) 1 6 (va_A (xW G a v mo ki pr df co bi g9 lr bf tn ln nx ct hv v0 k0 v1 k1 ++ [(oa, .inl (cL G, 1, .inr (.inl of)))]) H0.size) := by
  refine enterHX (cc := cL_appendText) (maxL := 5) (ret := some .int) (own := RL) (lv := [(0, .ref (a 0)), (1, .long (lN cu)), (3, .ref oa)]) (by decide) rfl rfl rfl (Nat.le_of_ble_eq_true rfl) ?_
  intro pg ev s m below meth c hx hb hr hts hown hlocks hml htab hH hCX ls hl
  subst hH
  have hC := hCX.1
  have hLo := va_freeB hB0 hC.2.2.2.1
  have hD := hB0.self (sz := s.heap.size)
  have hS : va_S (va_A (xW G a v mo ki pr df co bi g9 lr bf tn ln nx ct hv v0 k0 v1 k1 ++ [(oa, .inl (cL G, 1, .inr (.inl of)))]) s.heap.size) s.heap s.heap [] := va_S.rf
  unfold qMi
  generalize hAe : va_A (xW G a v mo ki pr df co bi g9 lr bf tn ln nx ct hv v0 k0 v1 k1 ++ [(oa, .inl (cL G, 1, .inr (.inl of)))]) s.heap.size = A at hD hLo hS ⊢
  have hA : ∀ q, s.heap.size ≤ q → A q := fun q h => by rw [← hAe]; exact Or.inr h
  generalize ([] : List Loc) = locs at hS ⊢
  have hP := hP0
  refine lv_aload_n hx hb dL_appendText_0 rfl (lv_at hl 2 rfl) ?_
  refine lv_iconst (v := nI (0)) hx hb dL_appendText_1 (by decide) ?_
  refine lv_aload_n hx hb dL_appendText_2 rfl (lv_at hl 0 rfl) ?_
  refine lv_lload_n hx hb dL_appendText_3 rfl (lv_at hl 1 rfl) ?_
  refine tCatch (hh := [(0, 9, 12, 15), (0, 9, 16, 28)]) (own := RL) (name := "java/lang/IllegalStateException") (vx_runV (As := [.long (lN cu)]) (rest := [.int (nI (0)), .ref oa]) ⟨hx, hb, hml, hown, hts⟩ (c_X8_appendText_x2 a tn ln cu (by first | assumption | omega) (by first | assumption | omega) (by first | assumption | omega) (by first | assumption | omega) hfl (xW_txt (pre_P hP))) (cwV 1 hts gL_appendText_X8_appendText rfl rfl rfl (by decide +kernel) ⟨Nat.le_of_ble_eq_true rfl, Nat.le_of_ble_eq_true rfl⟩) (preVX hCX hS hLo hP (ci := 7) (q0 := 0) rfl rfl) rfl rfl hl.1 rfl (lv_room (Nat.le_of_ble_eq_true rfl)) dL_appendText_4 ⟨Nat.le_of_ble_eq_true rfl, Nat.le_of_ble_eq_true rfl⟩) hP hS hown htab [⟨0, 9, 12, 15⟩] ⟨0, 9, 16, 28⟩ [] rfl (fun z hz => by rcases List.mem_singleton.mp hz with rfl; exact Or.inr ⟨by decide, "java/lang/IllegalArgumentException", (hts (.classLink RL 15 "java/lang/IllegalArgumentException") (by decide +kernel)), hC.nc 2 rfl⟩) (by decide) (by decide) (hts (.classLink RL 28 "java/lang/IllegalStateException") (by decide +kernel)) (hC.nest 82 rfl) (fun q_1 H locs hP hS => ?_)
  refine lv_astore (lv' := [(4, .ref q_1), (0, .ref (a 0)), (1, .long (lN cu)), (3, .ref oa)]) hx hb dL_appendText_16 hl (by decide) rfl (fun ls hl => ?_)
  refine lv_iconst (v := nI (2)) hx hb dL_appendText_18 (by decide) ?_
  exact xMi (G := G) (post := (fun (r : Int32) (u : Unit) => r = nI 2)) (w1 := (fun (u : Unit) => xW G a v mo ki pr df co bi g9 lr bf tn ln nx ct hv v0 k0 v1 k1 ++ [(oa, .inl (cL G, 1, .inr (.inl of)))])) (()) hx hb hr hlocks hP hS (by exact rfl) (by exact rfl) dL_appendText_19

set_option maxHeartbeats 4000000 in
set_option maxRecDepth 100000 in
theorem c_L_loadState_2s0 {l : Launch} {G : GT} {H0 : Heap} (a : Nat → Nat) (v : SVT) (mo ki : Nat → Nat) (pr df : Nat → Int) (co : Int32) (bi : Nat) (g9 : Nat → Int32) (lr : Nat) (bf : Nat → Int) (tn : Nat → Nat) (ln nx ct : Nat) (hv : Nat → SVT) (v0 : SVT) (k0 : Nat) (v1 : SVT) (k1 : Nat) (oa : Nat) (of : Nat → Int64) (hk0 : k0 = 0) (hfl : l.stackTraces = false) (hP0 : PP G (xW G a v mo ki pr df co bi g9 lr bf tn ln nx ct hv v0 k0 v1 k1 ++ [(oa, .inl (cL G, 1, .inr (.inl of)))]) H0) (hB0 : va_D (lo G) (xW G a v mo ki pr df co bi g9 lr bf tn ln nx ct hv v0 k0 v1 k1 ++ [(oa, .inl (cL G, 1, .inr (.inl of)))])) : Met l yL_loadState wsL_loadState ({ frames := 7, cells := 1, slots := 6, locals := 104 } : Room) (pcX G [.ref (a 0), .int (nI (0)), .ref oa] H0) (qMi G (fun (r : Int32) (u : Unit) => r = nI 2) (fun (u : Unit) => xW G a v mo ki pr df co bi g9 lr bf tn ln nx ct hv v0 k0 v1 k1 ++ [(oa, .inl (cL G, 1, .inr (.inl of)))]) (xW G a v mo ki pr df co bi g9 lr bf tn ln nx ct hv v0 k0 v1 k1 ++ [(oa, .inl (cL G, 1, .inr (.inl of)))]) H0) 1 6 (va_A (xW G a v mo ki pr df co bi g9 lr bf tn ln nx ct hv v0 k0 v1 k1 ++ [(oa, .inl (cL G, 1, .inr (.inl of)))]) H0.size) := by
  refine enterHX (cc := cL_loadState) (maxL := 4) (ret := some .int) (own := RL) (lv := [(0, .ref (a 0)), (1, .int (nI (0))), (2, .ref oa)]) (by decide) rfl rfl rfl (Nat.le_of_ble_eq_true rfl) ?_
  intro pg ev s m below meth c hx hb hr hts hown hlocks hml htab hH hCX ls hl
  subst hH
  have hC := hCX.1
  have hLo := va_freeB hB0 hC.2.2.2.1
  have hD := hB0.self (sz := s.heap.size)
  have hS : va_S (va_A (xW G a v mo ki pr df co bi g9 lr bf tn ln nx ct hv v0 k0 v1 k1 ++ [(oa, .inl (cL G, 1, .inr (.inl of)))]) s.heap.size) s.heap s.heap [] := va_S.rf
  unfold qMi
  generalize hAe : va_A (xW G a v mo ki pr df co bi g9 lr bf tn ln nx ct hv v0 k0 v1 k1 ++ [(oa, .inl (cL G, 1, .inr (.inl of)))]) s.heap.size = A at hD hLo hS ⊢
  have hA : ∀ q, s.heap.size ≤ q → A q := fun q h => by rw [← hAe]; exact Or.inr h
  generalize ([] : List Loc) = locs at hS ⊢
  have hP := hP0
  refine lv_aload_n hx hb dL_loadState_0 rfl (lv_at hl 2 rfl) ?_
  refine lv_iconst (v := nI (0)) hx hb dL_loadState_1 (by decide) ?_
  refine lv_aload_n hx hb dL_loadState_2 rfl (lv_at hl 0 rfl) ?_
  refine lv_iload_n hx hb dL_loadState_3 rfl (lv_at hl 1 rfl) ?_
  refine tCatch (hh := [(0, 9, 12, 13), (0, 9, 15, 28)]) (own := RL) (name := "java/lang/IllegalStateException") (vx_runV (As := [.int (nI (0))]) (rest := [.int (nI (0)), .ref oa]) ⟨hx, hb, hml, hown, hts⟩ (c_X8_loadState_x2_0 a k0 (by first | assumption | omega) hfl (xW_sl0 (pre_P hP))) (cwV 1 hts gL_loadState_X8_loadState rfl rfl rfl (by decide +kernel) ⟨Nat.le_of_ble_eq_true rfl, Nat.le_of_ble_eq_true rfl⟩) (preVX hCX hS hLo hP (ci := 7) (q0 := 0) rfl rfl) rfl rfl hl.1 rfl (lv_room (Nat.le_of_ble_eq_true rfl)) dL_loadState_4 ⟨Nat.le_of_ble_eq_true rfl, Nat.le_of_ble_eq_true rfl⟩) hP hS hown htab [⟨0, 9, 12, 13⟩] ⟨0, 9, 15, 28⟩ [] rfl (fun z hz => by rcases List.mem_singleton.mp hz with rfl; exact Or.inr ⟨by decide, "java/lang/IndexOutOfBoundsException", (hts (.classLink RL 13 "java/lang/IndexOutOfBoundsException") (by decide +kernel)), hC.nc 1 rfl⟩) (by decide) (by decide) (hts (.classLink RL 28 "java/lang/IllegalStateException") (by decide +kernel)) (hC.nest 82 rfl) (fun q_1 H locs hP hS => ?_)
  refine lv_astore_n (lv' := [(3, .ref q_1), (0, .ref (a 0)), (1, .int (nI (0))), (2, .ref oa)]) hx hb dL_loadState_15 rfl hl (by decide) rfl (fun ls hl => ?_)
  refine lv_iconst (v := nI (2)) hx hb dL_loadState_16 (by decide) ?_
  exact xMi (G := G) (post := (fun (r : Int32) (u : Unit) => r = nI 2)) (w1 := (fun (u : Unit) => xW G a v mo ki pr df co bi g9 lr bf tn ln nx ct hv v0 k0 v1 k1 ++ [(oa, .inl (cL G, 1, .inr (.inl of)))])) (()) hx hb hr hlocks hP hS (by exact rfl) (by exact rfl) dL_loadState_17

set_option maxHeartbeats 4000000 in
set_option maxRecDepth 100000 in
theorem c_L_loadState_2s1 {l : Launch} {G : GT} {H0 : Heap} (a : Nat → Nat) (v : SVT) (mo ki : Nat → Nat) (pr df : Nat → Int) (co : Int32) (bi : Nat) (g9 : Nat → Int32) (lr : Nat) (bf : Nat → Int) (tn : Nat → Nat) (ln nx ct : Nat) (hv : Nat → SVT) (v0 : SVT) (k0 : Nat) (v1 : SVT) (k1 : Nat) (oa : Nat) (of : Nat → Int64) (hk0 : k1 = 0) (hfl : l.stackTraces = false) (hP0 : PP G (xW G a v mo ki pr df co bi g9 lr bf tn ln nx ct hv v0 k0 v1 k1 ++ [(oa, .inl (cL G, 1, .inr (.inl of)))]) H0) (hB0 : va_D (lo G) (xW G a v mo ki pr df co bi g9 lr bf tn ln nx ct hv v0 k0 v1 k1 ++ [(oa, .inl (cL G, 1, .inr (.inl of)))])) : Met l yL_loadState wsL_loadState ({ frames := 7, cells := 1, slots := 6, locals := 104 } : Room) (pcX G [.ref (a 0), .int (nI (1)), .ref oa] H0) (qMi G (fun (r : Int32) (u : Unit) => r = nI 2) (fun (u : Unit) => xW G a v mo ki pr df co bi g9 lr bf tn ln nx ct hv v0 k0 v1 k1 ++ [(oa, .inl (cL G, 1, .inr (.inl of)))]) (xW G a v mo ki pr df co bi g9 lr bf tn ln nx ct hv v0 k0 v1 k1 ++ [(oa, .inl (cL G, 1, .inr (.inl of)))]) H0) 1 6 (va_A (xW G a v mo ki pr df co bi g9 lr bf tn ln nx ct hv v0 k0 v1 k1 ++ [(oa, .inl (cL G, 1, .inr (.inl of)))]) H0.size) := by
  refine enterHX (cc := cL_loadState) (maxL := 4) (ret := some .int) (own := RL) (lv := [(0, .ref (a 0)), (1, .int (nI (1))), (2, .ref oa)]) (by decide) rfl rfl rfl (Nat.le_of_ble_eq_true rfl) ?_
  intro pg ev s m below meth c hx hb hr hts hown hlocks hml htab hH hCX ls hl
  subst hH
  have hC := hCX.1
  have hLo := va_freeB hB0 hC.2.2.2.1
  have hD := hB0.self (sz := s.heap.size)
  have hS : va_S (va_A (xW G a v mo ki pr df co bi g9 lr bf tn ln nx ct hv v0 k0 v1 k1 ++ [(oa, .inl (cL G, 1, .inr (.inl of)))]) s.heap.size) s.heap s.heap [] := va_S.rf
  unfold qMi
  generalize hAe : va_A (xW G a v mo ki pr df co bi g9 lr bf tn ln nx ct hv v0 k0 v1 k1 ++ [(oa, .inl (cL G, 1, .inr (.inl of)))]) s.heap.size = A at hD hLo hS ⊢
  have hA : ∀ q, s.heap.size ≤ q → A q := fun q h => by rw [← hAe]; exact Or.inr h
  generalize ([] : List Loc) = locs at hS ⊢
  have hP := hP0
  refine lv_aload_n hx hb dL_loadState_0 rfl (lv_at hl 2 rfl) ?_
  refine lv_iconst (v := nI (0)) hx hb dL_loadState_1 (by decide) ?_
  refine lv_aload_n hx hb dL_loadState_2 rfl (lv_at hl 0 rfl) ?_
  refine lv_iload_n hx hb dL_loadState_3 rfl (lv_at hl 1 rfl) ?_
  refine tCatch (hh := [(0, 9, 12, 13), (0, 9, 15, 28)]) (own := RL) (name := "java/lang/IllegalStateException") (vx_runV (As := [.int (nI (1))]) (rest := [.int (nI (0)), .ref oa]) ⟨hx, hb, hml, hown, hts⟩ (c_X8_loadState_x2_1 a k1 (by first | assumption | omega) hfl (xW_sl1 (pre_P hP))) (cwV 1 hts gL_loadState_X8_loadState rfl rfl rfl (by decide +kernel) ⟨Nat.le_of_ble_eq_true rfl, Nat.le_of_ble_eq_true rfl⟩) (preVX hCX hS hLo hP (ci := 7) (q0 := 0) rfl rfl) rfl rfl hl.1 rfl (lv_room (Nat.le_of_ble_eq_true rfl)) dL_loadState_4 ⟨Nat.le_of_ble_eq_true rfl, Nat.le_of_ble_eq_true rfl⟩) hP hS hown htab [⟨0, 9, 12, 13⟩] ⟨0, 9, 15, 28⟩ [] rfl (fun z hz => by rcases List.mem_singleton.mp hz with rfl; exact Or.inr ⟨by decide, "java/lang/IndexOutOfBoundsException", (hts (.classLink RL 13 "java/lang/IndexOutOfBoundsException") (by decide +kernel)), hC.nc 1 rfl⟩) (by decide) (by decide) (hts (.classLink RL 28 "java/lang/IllegalStateException") (by decide +kernel)) (hC.nest 82 rfl) (fun q_1 H locs hP hS => ?_)
  refine lv_astore_n (lv' := [(3, .ref q_1), (0, .ref (a 0)), (1, .int (nI (1))), (2, .ref oa)]) hx hb dL_loadState_15 rfl hl (by decide) rfl (fun ls hl => ?_)
  refine lv_iconst (v := nI (2)) hx hb dL_loadState_16 (by decide) ?_
  exact xMi (G := G) (post := (fun (r : Int32) (u : Unit) => r = nI 2)) (w1 := (fun (u : Unit) => xW G a v mo ki pr df co bi g9 lr bf tn ln nx ct hv v0 k0 v1 k1 ++ [(oa, .inl (cL G, 1, .inr (.inl of)))])) (()) hx hb hr hlocks hP hS (by exact rfl) (by exact rfl) dL_loadState_17
