theorem ls_and {n k : Nat} (hn : n < 2 ^ 64) (hk : k ≤ 56) : (lN n >>> ((nI k).toInt64 &&& 63)) &&& 255 = lN (n / 2 ^ k % 256) := by
  rw [wb_c k (by omega)]
  apply wb_inj
  rw [Int64.toBitVec_and, Int64.toBitVec_shiftRight, wb_tb, wb_tb, wb_tb, wb_sm k (by omega)]
  have e : BitVec.sshiftRight' (BitVec.ofNat 64 n) (BitVec.ofNat 64 k) = BitVec.sshiftRight (BitVec.ofNat 64 n) k := by
    show BitVec.sshiftRight _ (BitVec.ofNat 64 k).toNat = _
    rw [BitVec.toNat_ofNat, Nat.mod_eq_of_lt (by omega)]
  rw [e]
  apply BitVec.eq_of_getLsbD_eq
  intro i hi
  have h255 : (255 : Int64).toBitVec = BitVec.ofNat 64 (2 ^ 8 - 1) := rfl
  rw [BitVec.getLsbD_and, h255, BitVec.getLsbD_sshiftRight, BitVec.getLsbD_ofNat, BitVec.getLsbD_ofNat, BitVec.getLsbD_ofNat, Nat.testBit_two_pow_sub_one, show (256 : Nat) = 2 ^ 8 from rfl, Nat.testBit_mod_two_pow, Nat.testBit_div_two_pow]
  by_cases h8 : i < 8
  · have h1 : k + i < 64 := by omega
    simp [h8, hi, h1, Nat.add_comm]
  · simp [h8]
theorem dv_256 {r i : Nat} (hi : i < 8) (h : r < 256 ^ (8 - i)) : r / 256 < 256 ^ (8 - (i + 1)) := by
  have e : 8 - i = (8 - (i + 1)) + 1 := by omega
  rw [e, Nat.pow_succ] at h
  exact Nat.div_lt_of_lt_mul (by rw [Nat.mul_comm]; exact h)
theorem dv_8 {r i : Nat} (hi : i ≤ 8) (h : r < 256 ^ (8 - i)) (h0 : ¬ r = 0) : i < 8 := by
  rcases Nat.lt_or_ge i 8 with q | q
  · exact q
  · have e : 8 - i = 0 := by omega
    rw [e] at h
    exact absurd h (by show ¬ r < 1; omega)
theorem ap_s {cu i r : Nat} {gd : Prop} (hi8 : i < 8) (h0 : ¬ r = 0) (h : (gd → CS cu = csF (8 - i) r i) ∧ (¬ gd → CS cu = 0)) :
    ((gd ∧ (33 ≤ r % 256 ∧ r % 256 ≤ 126)) → CS cu = csF (8 - (i + 1)) (r / 256) (i + 1)) ∧ (¬ (gd ∧ (33 ≤ r % 256 ∧ r % 256 ≤ 126)) → CS cu = 0) := by
  refine ⟨fun z => (h.1 z.1).trans (csF_s hi8 (by omega) (by omega)), fun z => ?_⟩
  by_cases g : gd
  · rw [h.1 g]
    by_cases c : r % 256 = 0
    · rw [csF_z (Or.inl c), if_neg h0]
    · exact csF_b hi8 c (by have hn : ¬ (33 ≤ r % 256 ∧ r % 256 ≤ 126) := fun q => z ⟨g, q⟩; omega)
  · exact h.2 g
theorem ap_e {cu i r : Nat} {gd : Prop} (h0 : r = 0) (h : (gd → CS cu = csF (8 - i) r i) ∧ (¬ gd → CS cu = 0)) : (gd → CS cu = i) ∧ (¬ gd → CS cu = 0) := by
  subst h0
  exact ⟨fun g => (h.1 g).trans ((csF_z (Or.inl rfl)).trans (if_pos rfl)), h.2⟩

set_option maxHeartbeats 4000000 in
set_option maxRecDepth 100000 in
theorem c_X9_textError {l : Launch} {G : GT} {H0 : Heap} (mh m1 m2 m3 m4 m5 : Nat) (ss hi sl : Nat → Int) (tx : Nat → Nat) (ne : Nat → Int) (th : Int32) (kn ke le : Nat) (sp wr si on tw dn : Int32) (htx : T128 tx) (hle : le ≤ 80) (hP0 : PP G ([(mh, .inr (8, [.int (th), .ref m1, .ref m2, .int (nI (kn)), .ref m3, .int (nI (ke)), .ref m4, .int (nI (le)), .ref m5, .int (sp), .int (wr), .int (si), .int (on), .int (tw), .int (dn)])), (m1, .inl (cI G, 205, .inl (fun z9 => iI (ss z9)))), (m2, .inl (cI G, 1230, .inl (fun z9 => iI (hi z9)))), (m3, .inl (cI G, 410, .inl (fun z9 => iI (sl z9)))), (m4, .inl (cI G, 80, .inl (fun z9 => nI (tx z9)))), (m5, .inl (cI G, 128, .inl (fun z9 => iI (ne z9))))]) H0) (hB0 : va_D (lo G) ([(mh, .inr (8, [.int (th), .ref m1, .ref m2, .int (nI (kn)), .ref m3, .int (nI (ke)), .ref m4, .int (nI (le)), .ref m5, .int (sp), .int (wr), .int (si), .int (on), .int (tw), .int (dn)])), (m1, .inl (cI G, 205, .inl (fun z9 => iI (ss z9)))), (m2, .inl (cI G, 1230, .inl (fun z9 => iI (hi z9)))), (m3, .inl (cI G, 410, .inl (fun z9 => iI (sl z9)))), (m4, .inl (cI G, 80, .inl (fun z9 => nI (tx z9)))), (m5, .inl (cI G, 128, .inl (fun z9 => iI (ne z9))))])) : Met l yX9_textError wsX9_textError ({ frames := 5, cells := 0, slots := 0, locals := 112 } : Room) (pcG G [.ref mh] H0) (qMi G (fun (r : Int32) (u : Nat × Nat × Int32 × Int32 × Int32) => r = iI (FE tx le)) (fun (u : Nat × Nat × Int32 × Int32 × Int32) => [(mh, .inr (8, [.int (nI (0)), .ref m1, .ref m2, .int (nI (kn)), .ref m3, .int (nI (ke)), .ref m4, .int (nI (le)), .ref m5, .int (nI (u.2.1)), .int (nI (u.1)), .int (u.2.2.1), .int (u.2.2.2.1), .int (u.2.2.2.2), .int (nI (0))])), (m1, .inl (cI G, 205, .inl (fun z9 => iI (ss z9)))), (m2, .inl (cI G, 1230, .inl (fun z9 => iI (hi z9)))), (m3, .inl (cI G, 410, .inl (fun z9 => iI (sl z9)))), (m4, .inl (cI G, 80, .inl (fun z9 => nI (tx z9)))), (m5, .inl (cI G, 128, .inl (fun z9 => iI (ne z9))))]) ([(mh, .inr (8, [.int (th), .ref m1, .ref m2, .int (nI (kn)), .ref m3, .int (nI (ke)), .ref m4, .int (nI (le)), .ref m5, .int (sp), .int (wr), .int (si), .int (on), .int (tw), .int (dn)])), (m1, .inl (cI G, 205, .inl (fun z9 => iI (ss z9)))), (m2, .inl (cI G, 1230, .inl (fun z9 => iI (hi z9)))), (m3, .inl (cI G, 410, .inl (fun z9 => iI (sl z9)))), (m4, .inl (cI G, 80, .inl (fun z9 => nI (tx z9)))), (m5, .inl (cI G, 128, .inl (fun z9 => iI (ne z9))))]) H0) 0 0 (va_A ([(mh, .inr (8, [.int (th), .ref m1, .ref m2, .int (nI (kn)), .ref m3, .int (nI (ke)), .ref m4, .int (nI (le)), .ref m5, .int (sp), .int (wr), .int (si), .int (on), .int (tw), .int (dn)])), (m1, .inl (cI G, 205, .inl (fun z9 => iI (ss z9)))), (m2, .inl (cI G, 1230, .inl (fun z9 => iI (hi z9)))), (m3, .inl (cI G, 410, .inl (fun z9 => iI (sl z9)))), (m4, .inl (cI G, 80, .inl (fun z9 => nI (tx z9)))), (m5, .inl (cI G, 128, .inl (fun z9 => iI (ne z9))))]) H0.size) := by
  refine enter (cc := cX9_textError) (maxL := 1) (ret := some .int) (own := RX9) (lv := [(0, .ref mh)]) (by decide) rfl rfl rfl (Nat.le_of_ble_eq_true rfl) ?_
  intro pg ev s m below meth c hx hb hr hts hown hlocks hml hnm hH hC ls hl
  subst hH
  have hLo := va_freeB hB0 hC.2.2.2.1
  have hD := hB0.self (sz := s.heap.size)
  have hS : va_S (va_A ([(mh, .inr (8, [.int (th), .ref m1, .ref m2, .int (nI (kn)), .ref m3, .int (nI (ke)), .ref m4, .int (nI (le)), .ref m5, .int (sp), .int (wr), .int (si), .int (on), .int (tw), .int (dn)])), (m1, .inl (cI G, 205, .inl (fun z9 => iI (ss z9)))), (m2, .inl (cI G, 1230, .inl (fun z9 => iI (hi z9)))), (m3, .inl (cI G, 410, .inl (fun z9 => iI (sl z9)))), (m4, .inl (cI G, 80, .inl (fun z9 => nI (tx z9)))), (m5, .inl (cI G, 128, .inl (fun z9 => iI (ne z9))))]) s.heap.size) s.heap s.heap [] := va_S.rf
  unfold qMi
  generalize hAe : va_A ([(mh, .inr (8, [.int (th), .ref m1, .ref m2, .int (nI (kn)), .ref m3, .int (nI (ke)), .ref m4, .int (nI (le)), .ref m5, .int (sp), .int (wr), .int (si), .int (on), .int (tw), .int (dn)])), (m1, .inl (cI G, 205, .inl (fun z9 => iI (ss z9)))), (m2, .inl (cI G, 1230, .inl (fun z9 => iI (hi z9)))), (m3, .inl (cI G, 410, .inl (fun z9 => iI (sl z9)))), (m4, .inl (cI G, 80, .inl (fun z9 => nI (tx z9)))), (m5, .inl (cI G, 128, .inl (fun z9 => iI (ne z9))))]) s.heap.size = A at hD hLo hS ⊢
  have hA : ∀ q, s.heap.size ≤ q → A q := fun q h => by rw [← hAe]; exact Or.inr h
  generalize ([] : List Loc) = locs at hS ⊢
  have hP := hP0
  refine lv_aload_n hx hb dX9_textError_0 rfl (lv_at hl 0 rfl) ?_
  refine lv_iconst (v := nI (0)) hx hb dX9_textError_1 (by decide) ?_
  refine va_put (D := gD G) (cl := vwCl) (tys := tyl G) (ci := 8) (v := .int (nI (0))) (ty := .int) (C := RX9) (T := TX9) (N := 15) hx hb hts (by decide +kernel) tyX9 tyX9_ok nmX9 hown hC.K hP hD hS 0 rfl rfl 0 (by decide) (hts (.fieldLink RX9 25 "MotionPostModel" "thrown" "I") (by decide +kernel)) (fun _ h9 => h9) rfl (by decide +kernel) (rfl) rfl (Nat.le_of_ble_eq_true rfl) dX9_textError_2 (fun H locs hP hD hS => ?_)
  have hP : PP G ([(mh, .inr (8, [.int (nI (0)), .ref m1, .ref m2, .int (nI (kn)), .ref m3, .int (nI (ke)), .ref m4, .int (nI (le)), .ref m5, .int (sp), .int (wr), .int (si), .int (on), .int (tw), .int (dn)])), (m1, .inl (cI G, 205, .inl (fun z9 => iI (ss z9)))), (m2, .inl (cI G, 1230, .inl (fun z9 => iI (hi z9)))), (m3, .inl (cI G, 410, .inl (fun z9 => iI (sl z9)))), (m4, .inl (cI G, 80, .inl (fun z9 => nI (tx z9)))), (m5, .inl (cI G, 128, .inl (fun z9 => iI (ne z9))))]) H := hP
  have hD : va_D A ([(mh, .inr (8, [.int (nI (0)), .ref m1, .ref m2, .int (nI (kn)), .ref m3, .int (nI (ke)), .ref m4, .int (nI (le)), .ref m5, .int (sp), .int (wr), .int (si), .int (on), .int (tw), .int (dn)])), (m1, .inl (cI G, 205, .inl (fun z9 => iI (ss z9)))), (m2, .inl (cI G, 1230, .inl (fun z9 => iI (hi z9)))), (m3, .inl (cI G, 410, .inl (fun z9 => iI (sl z9)))), (m4, .inl (cI G, 80, .inl (fun z9 => nI (tx z9)))), (m5, .inl (cI G, 128, .inl (fun z9 => iI (ne z9))))]) := hD
  refine lv_aload_n hx hb dX9_textError_5 rfl (lv_at hl 0 rfl) ?_
  refine lv_iconst (v := nI (0)) hx hb dX9_textError_6 (by decide) ?_
  refine kMv (va_runV (As := [.int (nI (0))]) (rest := []) ⟨hx, hb, hml, hown, hts⟩ (c_gt0 mh m1 m2 m3 m4 m5 ss hi sl tx ne (nI (0)) kn ke le sp wr si on tw dn (by first | assumption | omega) (by first | assumption | omega) (hP.sub [0, 1, 2, 3, 4, 5] rfl) ((hD.sub [0, 1, 2, 3, 4, 5] (by decide) rfl).weaken (fun _ _ _ h => hLo _ h))) (cwV 1 hts gX9_textError_X9_goesThrough rfl rfl rfl (by decide +kernel) ⟨Nat.le_of_ble_eq_true rfl, Nat.le_of_ble_eq_true rfl⟩) (preV hC hS hLo hP (ci := 8) (q0 := 0) rfl rfl) rfl rfl hl.1 rfl (lv_room (Nat.le_of_ble_eq_true rfl)) dX9_textError_7 ⟨Nat.zero_le _, Nat.zero_le _⟩) hP hD hS hA [0, 1, 2, 3, 4, 5] (by decide) rfl (fun _ => rfl) (fun u_1 H locs q_2 hP hD hS => ?_)
  have hP : PP G ([(mh, .inr (8, [.int (nI (0)), .ref m1, .ref m2, .int (nI (kn)), .ref m3, .int (nI (ke)), .ref m4, .int (nI (le)), .ref m5, .int (nI (u_1.2.1)), .int (nI (u_1.1)), .int (u_1.2.2.1), .int (u_1.2.2.2.1), .int (u_1.2.2.2.2), .int (nI (0))])), (m1, .inl (cI G, 205, .inl (fun z9 => iI (ss z9)))), (m2, .inl (cI G, 1230, .inl (fun z9 => iI (hi z9)))), (m3, .inl (cI G, 410, .inl (fun z9 => iI (sl z9)))), (m4, .inl (cI G, 80, .inl (fun z9 => nI (tx z9)))), (m5, .inl (cI G, 128, .inl (fun z9 => iI (ne z9))))]) H := hP
  have hD : va_D A ([(mh, .inr (8, [.int (nI (0)), .ref m1, .ref m2, .int (nI (kn)), .ref m3, .int (nI (ke)), .ref m4, .int (nI (le)), .ref m5, .int (nI (u_1.2.1)), .int (nI (u_1.1)), .int (u_1.2.2.1), .int (u_1.2.2.2.1), .int (u_1.2.2.2.2), .int (nI (0))])), (m1, .inl (cI G, 205, .inl (fun z9 => iI (ss z9)))), (m2, .inl (cI G, 1230, .inl (fun z9 => iI (hi z9)))), (m3, .inl (cI G, 410, .inl (fun z9 => iI (sl z9)))), (m4, .inl (cI G, 80, .inl (fun z9 => nI (tx z9)))), (m5, .inl (cI G, 128, .inl (fun z9 => iI (ne z9))))]) := hD
  refine lv_aload_n hx hb dX9_textError_10 rfl (lv_at hl 0 rfl) ?_
  refine va_get (D := gD G) (cl := vwCl) (tys := tyl G) (ci := 8) (v := .int (nI (u_1.1))) (C := RX9) (T := TX9) (N := 15) hx hb hts (by decide +kernel) hown hC.K hP 0 rfl rfl 10 (by decide) (hts (.fieldLink RX9 127 "MotionPostModel" "isWrong" "Z") (by decide +kernel)) (fun _ h9 => h9) rfl dX9_textError_11 ?_
  have hq9 := q_2
  have hfi := FE_in tx le
  refine lv_if_eq (tgt := 24) hx hb dX9_textError_14 (by decide) (fun c_4 => ?_) (fun c_4 => ?_)
  · have f_5 : ((u_1.1 : Nat) : Int) = (0 : Int) := (c_eq (nI_toInt (n := u_1.1) (by omega)) rfl).mp c_4
    refine lv_iconst (v := iI (-1)) hx hb dX9_textError_24 (by decide) ?_
    exact xMi (G := G) (post := (fun (r : Int32) (u : Nat × Nat × Int32 × Int32 × Int32) => r = iI (FE tx le))) (w1 := (fun (u : Nat × Nat × Int32 × Int32 × Int32) => [(mh, .inr (8, [.int (nI (0)), .ref m1, .ref m2, .int (nI (kn)), .ref m3, .int (nI (ke)), .ref m4, .int (nI (le)), .ref m5, .int (nI (u.2.1)), .int (nI (u.1)), .int (u.2.2.1), .int (u.2.2.2.1), .int (u.2.2.2.2), .int (nI (0))])), (m1, .inl (cI G, 205, .inl (fun z9 => iI (ss z9)))), (m2, .inl (cI G, 1230, .inl (fun z9 => iI (hi z9)))), (m3, .inl (cI G, 410, .inl (fun z9 => iI (sl z9)))), (m4, .inl (cI G, 80, .inl (fun z9 => nI (tx z9)))), (m5, .inl (cI G, 128, .inl (fun z9 => iI (ne z9))))])) (u_1) hx hb hr hlocks hP hS (by exact (congrArg iI (by omega))) (by exact rfl) dX9_textError_25
  · have f_6 : ¬ ((u_1.1 : Nat) : Int) = (0 : Int) := fun z => c_4 ((c_eq (nI_toInt (n := u_1.1) (by omega)) rfl).mpr z)
    refine lv_aload_n hx hb dX9_textError_17 rfl (lv_at hl 0 rfl) ?_
    refine va_get (D := gD G) (cl := vwCl) (tys := tyl G) (ci := 8) (v := .int (nI (u_1.2.1))) (C := RX9) (T := TX9) (N := 15) hx hb hts (by decide +kernel) hown hC.K hP 0 rfl rfl 9 (by decide) (hts (.fieldLink RX9 131 "MotionPostModel" "spot" "I") (by decide +kernel)) (fun _ h9 => h9) rfl dX9_textError_18 ?_
    refine lv_goto (tgt := 25) hx hb dX9_textError_21 (by decide) ?_
    exact xMi (G := G) (post := (fun (r : Int32) (u : Nat × Nat × Int32 × Int32 × Int32) => r = iI (FE tx le))) (w1 := (fun (u : Nat × Nat × Int32 × Int32 × Int32) => [(mh, .inr (8, [.int (nI (0)), .ref m1, .ref m2, .int (nI (kn)), .ref m3, .int (nI (ke)), .ref m4, .int (nI (le)), .ref m5, .int (nI (u.2.1)), .int (nI (u.1)), .int (u.2.2.1), .int (u.2.2.2.1), .int (u.2.2.2.2), .int (nI (0))])), (m1, .inl (cI G, 205, .inl (fun z9 => iI (ss z9)))), (m2, .inl (cI G, 1230, .inl (fun z9 => iI (hi z9)))), (m3, .inl (cI G, 410, .inl (fun z9 => iI (sl z9)))), (m4, .inl (cI G, 80, .inl (fun z9 => nI (tx z9)))), (m5, .inl (cI G, 128, .inl (fun z9 => iI (ne z9))))])) (u_1) hx hb hr hlocks hP hS (by exact ((nI_i _).trans (congrArg iI (by omega)))) (by exact rfl) dX9_textError_25

set_option maxHeartbeats 4000000 in
set_option maxRecDepth 100000 in
theorem c_X9_runText {l : Launch} {G : GT} {H0 : Heap} (mh m1 m2 m3 m4 m5 : Nat) (ss hi sl : Nat → Int) (tx : Nat → Nat) (ne : Nat → Int) (th : Int32) (kn ke le : Nat) (sp wr si on tw dn : Int32) (htx : T128 tx) (hle : le ≤ 80) (hMR : MR ss) (hkn : kn ≤ 6) (hok : FE tx le = -1) (hP0 : PP G ([(mh, .inr (8, [.int (th), .ref m1, .ref m2, .int (nI (kn)), .ref m3, .int (nI (ke)), .ref m4, .int (nI (le)), .ref m5, .int (sp), .int (wr), .int (si), .int (on), .int (tw), .int (dn)])), (m1, .inl (cI G, 205, .inl (fun z9 => iI (ss z9)))), (m2, .inl (cI G, 1230, .inl (fun z9 => iI (hi z9)))), (m3, .inl (cI G, 410, .inl (fun z9 => iI (sl z9)))), (m4, .inl (cI G, 80, .inl (fun z9 => nI (tx z9)))), (m5, .inl (cI G, 128, .inl (fun z9 => iI (ne z9))))]) H0) (hB0 : va_D (lo G) ([(mh, .inr (8, [.int (th), .ref m1, .ref m2, .int (nI (kn)), .ref m3, .int (nI (ke)), .ref m4, .int (nI (le)), .ref m5, .int (sp), .int (wr), .int (si), .int (on), .int (tw), .int (dn)])), (m1, .inl (cI G, 205, .inl (fun z9 => iI (ss z9)))), (m2, .inl (cI G, 1230, .inl (fun z9 => iI (hi z9)))), (m3, .inl (cI G, 410, .inl (fun z9 => iI (sl z9)))), (m4, .inl (cI G, 80, .inl (fun z9 => nI (tx z9)))), (m5, .inl (cI G, 128, .inl (fun z9 => iI (ne z9))))])) : Met l yX9_runText wsX9_runText ({ frames := 12, cells := 0, slots := 0, locals := 283 } : Room) (pcG G [.ref mh] H0) (qMi G (fun (r : Int32) (u : (Nat → Int) × Nat × Int32 × Int32 × Int32) => r = nI ((rC tx le (le + 1) 0 ss 0).2)) (fun (u : (Nat → Int) × Nat × Int32 × Int32 × Int32) => [(mh, .inr (8, [.int (nI (0)), .ref m1, .ref m2, .int (nI (min (kn + 1) 6)), .ref m3, .int (nI (ke)), .ref m4, .int (nI (0)), .ref m5, .int (nI (u.2.1)), .int (nI (0)), .int (u.2.2.1), .int (u.2.2.2.1), .int (u.2.2.2.2), .int (nI ((rC tx le (le + 1) 0 ss 0).2))])), (m1, .inl (cI G, 205, .inl (fun z9 => iI (((rC tx le (le + 1) 0 ss 0).1) z9)))), (m2, .inl (cI G, 1230, .inl (fun z9 => iI ((recH hi ss kn) z9)))), (m3, .inl (cI G, 410, .inl (fun z9 => iI (sl z9)))), (m4, .inl (cI G, 80, .inl (fun z9 => nI (tx z9)))), (m5, .inl (cI G, 128, .inl (fun z9 => iI (u.1 z9))))]) ([(mh, .inr (8, [.int (th), .ref m1, .ref m2, .int (nI (kn)), .ref m3, .int (nI (ke)), .ref m4, .int (nI (le)), .ref m5, .int (sp), .int (wr), .int (si), .int (on), .int (tw), .int (dn)])), (m1, .inl (cI G, 205, .inl (fun z9 => iI (ss z9)))), (m2, .inl (cI G, 1230, .inl (fun z9 => iI (hi z9)))), (m3, .inl (cI G, 410, .inl (fun z9 => iI (sl z9)))), (m4, .inl (cI G, 80, .inl (fun z9 => nI (tx z9)))), (m5, .inl (cI G, 128, .inl (fun z9 => iI (ne z9))))]) H0) 0 0 (va_A ([(mh, .inr (8, [.int (th), .ref m1, .ref m2, .int (nI (kn)), .ref m3, .int (nI (ke)), .ref m4, .int (nI (le)), .ref m5, .int (sp), .int (wr), .int (si), .int (on), .int (tw), .int (dn)])), (m1, .inl (cI G, 205, .inl (fun z9 => iI (ss z9)))), (m2, .inl (cI G, 1230, .inl (fun z9 => iI (hi z9)))), (m3, .inl (cI G, 410, .inl (fun z9 => iI (sl z9)))), (m4, .inl (cI G, 80, .inl (fun z9 => nI (tx z9)))), (m5, .inl (cI G, 128, .inl (fun z9 => iI (ne z9))))]) H0.size) := by
  refine enter (cc := cX9_runText) (maxL := 1) (ret := some .int) (own := RX9) (lv := [(0, .ref mh)]) (by decide) rfl rfl rfl (Nat.le_of_ble_eq_true rfl) ?_
  intro pg ev s m below meth c hx hb hr hts hown hlocks hml hnm hH hC ls hl
  subst hH
  have hLo := va_freeB hB0 hC.2.2.2.1
  have hD := hB0.self (sz := s.heap.size)
  have hS : va_S (va_A ([(mh, .inr (8, [.int (th), .ref m1, .ref m2, .int (nI (kn)), .ref m3, .int (nI (ke)), .ref m4, .int (nI (le)), .ref m5, .int (sp), .int (wr), .int (si), .int (on), .int (tw), .int (dn)])), (m1, .inl (cI G, 205, .inl (fun z9 => iI (ss z9)))), (m2, .inl (cI G, 1230, .inl (fun z9 => iI (hi z9)))), (m3, .inl (cI G, 410, .inl (fun z9 => iI (sl z9)))), (m4, .inl (cI G, 80, .inl (fun z9 => nI (tx z9)))), (m5, .inl (cI G, 128, .inl (fun z9 => iI (ne z9))))]) s.heap.size) s.heap s.heap [] := va_S.rf
  unfold qMi
  generalize hAe : va_A ([(mh, .inr (8, [.int (th), .ref m1, .ref m2, .int (nI (kn)), .ref m3, .int (nI (ke)), .ref m4, .int (nI (le)), .ref m5, .int (sp), .int (wr), .int (si), .int (on), .int (tw), .int (dn)])), (m1, .inl (cI G, 205, .inl (fun z9 => iI (ss z9)))), (m2, .inl (cI G, 1230, .inl (fun z9 => iI (hi z9)))), (m3, .inl (cI G, 410, .inl (fun z9 => iI (sl z9)))), (m4, .inl (cI G, 80, .inl (fun z9 => nI (tx z9)))), (m5, .inl (cI G, 128, .inl (fun z9 => iI (ne z9))))]) s.heap.size = A at hD hLo hS ⊢
  have hA : ∀ q, s.heap.size ≤ q → A q := fun q h => by rw [← hAe]; exact Or.inr h
  generalize ([] : List Loc) = locs at hS ⊢
  have hP := hP0
  refine lv_aload_n hx hb dX9_runText_0 rfl (lv_at hl 0 rfl) ?_
  refine lv_iconst (v := nI (0)) hx hb dX9_runText_1 (by decide) ?_
  refine kMv (va_runV (As := [.int (nI (0))]) (rest := []) ⟨hx, hb, hml, hown, hts⟩ (c_gt0 mh m1 m2 m3 m4 m5 ss hi sl tx ne th kn ke le sp wr si on tw dn (by first | assumption | omega) (by first | assumption | omega) (hP.sub [0, 1, 2, 3, 4, 5] rfl) ((hD.sub [0, 1, 2, 3, 4, 5] (by decide) rfl).weaken (fun _ _ _ h => hLo _ h))) (cwV 1 hts gX9_runText_X9_goesThrough rfl rfl rfl (by decide +kernel) ⟨Nat.le_of_ble_eq_true rfl, Nat.le_of_ble_eq_true rfl⟩) (preV hC hS hLo hP (ci := 8) (q0 := 0) rfl rfl) rfl rfl hl.1 rfl (lv_room (Nat.le_of_ble_eq_true rfl)) dX9_runText_2 ⟨Nat.zero_le _, Nat.zero_le _⟩) hP hD hS hA [0, 1, 2, 3, 4, 5] (by decide) rfl (fun _ => rfl) (fun u_1 H locs q_2 hP hD hS => ?_)
  have hP : PP G ([(mh, .inr (8, [.int (th), .ref m1, .ref m2, .int (nI (kn)), .ref m3, .int (nI (ke)), .ref m4, .int (nI (le)), .ref m5, .int (nI (u_1.2.1)), .int (nI (u_1.1)), .int (u_1.2.2.1), .int (u_1.2.2.2.1), .int (u_1.2.2.2.2), .int (nI (0))])), (m1, .inl (cI G, 205, .inl (fun z9 => iI (ss z9)))), (m2, .inl (cI G, 1230, .inl (fun z9 => iI (hi z9)))), (m3, .inl (cI G, 410, .inl (fun z9 => iI (sl z9)))), (m4, .inl (cI G, 80, .inl (fun z9 => nI (tx z9)))), (m5, .inl (cI G, 128, .inl (fun z9 => iI (ne z9))))]) H := hP
  have hD : va_D A ([(mh, .inr (8, [.int (th), .ref m1, .ref m2, .int (nI (kn)), .ref m3, .int (nI (ke)), .ref m4, .int (nI (le)), .ref m5, .int (nI (u_1.2.1)), .int (nI (u_1.1)), .int (u_1.2.2.1), .int (u_1.2.2.2.1), .int (u_1.2.2.2.2), .int (nI (0))])), (m1, .inl (cI G, 205, .inl (fun z9 => iI (ss z9)))), (m2, .inl (cI G, 1230, .inl (fun z9 => iI (hi z9)))), (m3, .inl (cI G, 410, .inl (fun z9 => iI (sl z9)))), (m4, .inl (cI G, 80, .inl (fun z9 => nI (tx z9)))), (m5, .inl (cI G, 128, .inl (fun z9 => iI (ne z9))))]) := hD
  have hw0 : u_1.1 = 0 := by have q9 := q_2; omega
  refine lv_aload_n hx hb dX9_runText_5 rfl (lv_at hl 0 rfl) ?_
  refine lv_aload_n hx hb dX9_runText_6 rfl (lv_at hl 0 rfl) ?_
  refine va_get (D := gD G) (cl := vwCl) (tys := tyl G) (ci := 8) (v := .int (nI (u_1.1))) (C := RX9) (T := TX9) (N := 15) hx hb hts (by decide +kernel) hown hC.K hP 0 rfl rfl 10 (by decide) (hts (.fieldLink RX9 127 "MotionPostModel" "isWrong" "Z") (by decide +kernel)) (fun _ h9 => h9) rfl dX9_runText_7 ?_
  refine lv_if_eq (tgt := 17) hx hb dX9_runText_10 (by decide) (fun c_4 => ?_) (fun c_4 => ?_)
  · have f_5 : ((u_1.1 : Nat) : Int) = (0 : Int) := (c_eq (nI_toInt (n := u_1.1) (by omega)) rfl).mp c_4
    refine lv_iconst (v := nI (0)) hx hb dX9_runText_17 (by decide) ?_
    refine kMi (va_runV (As := [.int (nI (0))]) (rest := []) ⟨hx, hb, hml, hown, hts⟩ (c_X9_holds mh m1 m2 m3 m4 m5 ss hi sl tx ne th kn ke le (nI (u_1.2.1)) (nI (u_1.1)) u_1.2.2.1 u_1.2.2.2.1 u_1.2.2.2.2 (nI (0)) 0 (by first | assumption | omega) (hP.sub [0, 1, 2, 3, 4, 5] rfl) ((hD.sub [0, 1, 2, 3, 4, 5] (by decide) rfl).weaken (fun _ _ _ h => hLo _ h))) (cwV 1 hts gX9_runText_X9_holds rfl rfl rfl (by decide +kernel) ⟨Nat.le_of_ble_eq_true rfl, Nat.le_of_ble_eq_true rfl⟩) (preV hC hS hLo hP (ci := 8) (q0 := 0) rfl rfl) rfl rfl hl.1 rfl (lv_room (Nat.le_of_ble_eq_true rfl)) dX9_runText_18 ⟨Nat.zero_le _, Nat.zero_le _⟩) hP hD hS hA [0, 1, 2, 3, 4, 5] (by decide) rfl (fun _ => rfl) (fun r_8 u_6 H locs q_7 hP hD hS => ?_)
    have hP : PP G ([(mh, .inr (8, [.int (nI (0)), .ref m1, .ref m2, .int (nI (kn)), .ref m3, .int (nI (ke)), .ref m4, .int (nI (le)), .ref m5, .int (nI (u_1.2.1)), .int (nI (u_1.1)), .int (u_1.2.2.1), .int (u_1.2.2.2.1), .int (u_1.2.2.2.2), .int (nI (0))])), (m1, .inl (cI G, 205, .inl (fun z9 => iI (ss z9)))), (m2, .inl (cI G, 1230, .inl (fun z9 => iI (hi z9)))), (m3, .inl (cI G, 410, .inl (fun z9 => iI (sl z9)))), (m4, .inl (cI G, 80, .inl (fun z9 => nI (tx z9)))), (m5, .inl (cI G, 128, .inl (fun z9 => iI (ne z9))))]) H := hP
    have hD : va_D A ([(mh, .inr (8, [.int (nI (0)), .ref m1, .ref m2, .int (nI (kn)), .ref m3, .int (nI (ke)), .ref m4, .int (nI (le)), .ref m5, .int (nI (u_1.2.1)), .int (nI (u_1.1)), .int (u_1.2.2.1), .int (u_1.2.2.2.1), .int (u_1.2.2.2.2), .int (nI (0))])), (m1, .inl (cI G, 205, .inl (fun z9 => iI (ss z9)))), (m2, .inl (cI G, 1230, .inl (fun z9 => iI (hi z9)))), (m3, .inl (cI G, 410, .inl (fun z9 => iI (sl z9)))), (m4, .inl (cI G, 80, .inl (fun z9 => nI (tx z9)))), (m5, .inl (cI G, 128, .inl (fun z9 => iI (ne z9))))]) := hD
    refine topE (v' := nI (1)) (q_7.trans (bI_t rfl)) ?_
    refine lv_if_ne (tgt := 26) hx hb dX9_runText_21 (by decide) (fun c_9 => ?_) (fun c_9 => ?_)
    · have f_10 : ¬ (1 : Int) = (0 : Int) := fun z => c_9 ((c_eq (nI_toInt (n := 1) (by omega)) rfl).mpr z)
      refine lv_aload_n hx hb dX9_runText_26 rfl (lv_at hl 0 rfl) ?_
      refine kMv (va_runV (As := []) (rest := []) ⟨hx, hb, hml, hown, hts⟩ (c_X9_record mh m1 m2 m3 m4 m5 ss hi sl tx ne (nI (0)) kn ke le (nI (u_1.2.1)) (nI (u_1.1)) u_1.2.2.1 u_1.2.2.2.1 u_1.2.2.2.2 (nI (0)) (by first | assumption | omega) (hP.sub [0, 1, 2, 3, 4, 5] rfl) ((hD.sub [0, 1, 2, 3, 4, 5] (by decide) rfl).weaken (fun _ _ _ h => hLo _ h))) (cwV 0 hts gX9_runText_X9_record rfl rfl rfl (by decide +kernel) ⟨Nat.le_of_ble_eq_true rfl, Nat.le_of_ble_eq_true rfl⟩) (preV hC hS hLo hP (ci := 8) (q0 := 0) rfl rfl) rfl rfl hl.1 rfl (lv_room (Nat.le_of_ble_eq_true rfl)) dX9_runText_27 ⟨Nat.zero_le _, Nat.zero_le _⟩) hP hD hS hA [0, 1, 2, 3, 4, 5] (by decide) rfl (fun _ => rfl) (fun u_11 H locs q_12 hP hD hS => ?_)
      have hP : PP G ([(mh, .inr (8, [.int (nI (0)), .ref m1, .ref m2, .int (nI (min (kn + 1) 6)), .ref m3, .int (nI (ke)), .ref m4, .int (nI (le)), .ref m5, .int (nI (u_1.2.1)), .int (nI (u_1.1)), .int (u_1.2.2.1), .int (u_1.2.2.2.1), .int (u_1.2.2.2.2), .int (nI (0))])), (m1, .inl (cI G, 205, .inl (fun z9 => iI (ss z9)))), (m2, .inl (cI G, 1230, .inl (fun z9 => iI ((recH hi ss kn) z9)))), (m3, .inl (cI G, 410, .inl (fun z9 => iI (sl z9)))), (m4, .inl (cI G, 80, .inl (fun z9 => nI (tx z9)))), (m5, .inl (cI G, 128, .inl (fun z9 => iI (ne z9))))]) H := hP
      have hD : va_D A ([(mh, .inr (8, [.int (nI (0)), .ref m1, .ref m2, .int (nI (min (kn + 1) 6)), .ref m3, .int (nI (ke)), .ref m4, .int (nI (le)), .ref m5, .int (nI (u_1.2.1)), .int (nI (u_1.1)), .int (u_1.2.2.1), .int (u_1.2.2.2.1), .int (u_1.2.2.2.2), .int (nI (0))])), (m1, .inl (cI G, 205, .inl (fun z9 => iI (ss z9)))), (m2, .inl (cI G, 1230, .inl (fun z9 => iI ((recH hi ss kn) z9)))), (m3, .inl (cI G, 410, .inl (fun z9 => iI (sl z9)))), (m4, .inl (cI G, 80, .inl (fun z9 => nI (tx z9)))), (m5, .inl (cI G, 128, .inl (fun z9 => iI (ne z9))))]) := hD
      refine lv_aload_n hx hb dX9_runText_30 rfl (lv_at hl 0 rfl) ?_
      refine lv_iconst (v := nI (1)) hx hb dX9_runText_31 (by decide) ?_
      refine kMv (va_runV (As := [.int (nI (1))]) (rest := []) ⟨hx, hb, hml, hown, hts⟩ (c_gt1 mh m1 m2 m3 m4 m5 ss (recH hi ss kn) sl tx ne (nI (0)) (min (kn + 1) 6) ke le (nI (u_1.2.1)) (nI (u_1.1)) u_1.2.2.1 u_1.2.2.2.1 u_1.2.2.2.2 (nI (0)) (by first | assumption | omega) (by first | assumption | omega) (by first | assumption | omega) (by first | assumption | omega) (hP.sub [0, 1, 2, 3, 4, 5] rfl) ((hD.sub [0, 1, 2, 3, 4, 5] (by decide) rfl).weaken (fun _ _ _ h => hLo _ h))) (cwV 1 hts gX9_runText_X9_goesThrough rfl rfl rfl (by decide +kernel) ⟨Nat.le_of_ble_eq_true rfl, Nat.le_of_ble_eq_true rfl⟩) (preV hC hS hLo hP (ci := 8) (q0 := 0) rfl rfl) rfl rfl hl.1 rfl (lv_room (Nat.le_of_ble_eq_true rfl)) dX9_runText_32 ⟨Nat.zero_le _, Nat.zero_le _⟩) hP hD hS hA [0, 1, 2, 3, 4, 5] (by decide) rfl (fun _ => rfl) (fun u_14 H locs q_15 hP hD hS => ?_)
      have hP : PP G ([(mh, .inr (8, [.int (nI (0)), .ref m1, .ref m2, .int (nI (min (kn + 1) 6)), .ref m3, .int (nI (ke)), .ref m4, .int (nI (le)), .ref m5, .int (nI (u_14.2.1)), .int (nI (0)), .int (u_14.2.2.1), .int (u_14.2.2.2.1), .int (u_14.2.2.2.2), .int (nI ((rC tx le (le + 1) 0 ss 0).2))])), (m1, .inl (cI G, 205, .inl (fun z9 => iI (((rC tx le (le + 1) 0 ss 0).1) z9)))), (m2, .inl (cI G, 1230, .inl (fun z9 => iI ((recH hi ss kn) z9)))), (m3, .inl (cI G, 410, .inl (fun z9 => iI (sl z9)))), (m4, .inl (cI G, 80, .inl (fun z9 => nI (tx z9)))), (m5, .inl (cI G, 128, .inl (fun z9 => iI (u_14.1 z9))))]) H := hP
      have hD : va_D A ([(mh, .inr (8, [.int (nI (0)), .ref m1, .ref m2, .int (nI (min (kn + 1) 6)), .ref m3, .int (nI (ke)), .ref m4, .int (nI (le)), .ref m5, .int (nI (u_14.2.1)), .int (nI (0)), .int (u_14.2.2.1), .int (u_14.2.2.2.1), .int (u_14.2.2.2.2), .int (nI ((rC tx le (le + 1) 0 ss 0).2))])), (m1, .inl (cI G, 205, .inl (fun z9 => iI (((rC tx le (le + 1) 0 ss 0).1) z9)))), (m2, .inl (cI G, 1230, .inl (fun z9 => iI ((recH hi ss kn) z9)))), (m3, .inl (cI G, 410, .inl (fun z9 => iI (sl z9)))), (m4, .inl (cI G, 80, .inl (fun z9 => nI (tx z9)))), (m5, .inl (cI G, 128, .inl (fun z9 => iI (u_14.1 z9))))]) := hD
      refine lv_aload_n hx hb dX9_runText_35 rfl (lv_at hl 0 rfl) ?_
      refine lv_iconst (v := nI (0)) hx hb dX9_runText_36 (by decide) ?_
      refine va_put (D := gD G) (cl := vwCl) (tys := tyl G) (ci := 8) (v := .int (nI (0))) (ty := .int) (C := RX9) (T := TX9) (N := 15) hx hb hts (by decide +kernel) tyX9 tyX9_ok nmX9 hown hC.K hP hD hS 0 rfl rfl 7 (by decide) (hts (.fieldLink RX9 124 "MotionPostModel" "length" "I") (by decide +kernel)) (fun _ h9 => h9) rfl (by decide +kernel) (rfl) rfl (Nat.le_of_ble_eq_true rfl) dX9_runText_37 (fun H locs hP hD hS => ?_)
      have hP : PP G ([(mh, .inr (8, [.int (nI (0)), .ref m1, .ref m2, .int (nI (min (kn + 1) 6)), .ref m3, .int (nI (ke)), .ref m4, .int (nI (0)), .ref m5, .int (nI (u_14.2.1)), .int (nI (0)), .int (u_14.2.2.1), .int (u_14.2.2.2.1), .int (u_14.2.2.2.2), .int (nI ((rC tx le (le + 1) 0 ss 0).2))])), (m1, .inl (cI G, 205, .inl (fun z9 => iI (((rC tx le (le + 1) 0 ss 0).1) z9)))), (m2, .inl (cI G, 1230, .inl (fun z9 => iI ((recH hi ss kn) z9)))), (m3, .inl (cI G, 410, .inl (fun z9 => iI (sl z9)))), (m4, .inl (cI G, 80, .inl (fun z9 => nI (tx z9)))), (m5, .inl (cI G, 128, .inl (fun z9 => iI (u_14.1 z9))))]) H := hP
      have hD : va_D A ([(mh, .inr (8, [.int (nI (0)), .ref m1, .ref m2, .int (nI (min (kn + 1) 6)), .ref m3, .int (nI (ke)), .ref m4, .int (nI (0)), .ref m5, .int (nI (u_14.2.1)), .int (nI (0)), .int (u_14.2.2.1), .int (u_14.2.2.2.1), .int (u_14.2.2.2.2), .int (nI ((rC tx le (le + 1) 0 ss 0).2))])), (m1, .inl (cI G, 205, .inl (fun z9 => iI (((rC tx le (le + 1) 0 ss 0).1) z9)))), (m2, .inl (cI G, 1230, .inl (fun z9 => iI ((recH hi ss kn) z9)))), (m3, .inl (cI G, 410, .inl (fun z9 => iI (sl z9)))), (m4, .inl (cI G, 80, .inl (fun z9 => nI (tx z9)))), (m5, .inl (cI G, 128, .inl (fun z9 => iI (u_14.1 z9))))]) := hD
      refine lv_aload_n hx hb dX9_runText_40 rfl (lv_at hl 0 rfl) ?_
      refine va_get (D := gD G) (cl := vwCl) (tys := tyl G) (ci := 8) (v := .int (nI ((rC tx le (le + 1) 0 ss 0).2))) (C := RX9) (T := TX9) (N := 15) hx hb hts (by decide +kernel) hown hC.K hP 0 rfl rfl 14 (by decide) (hts (.fieldLink RX9 149 "MotionPostModel" "done" "I") (by decide +kernel)) (fun _ h9 => h9) rfl dX9_runText_41 ?_
      exact xMi (G := G) (post := (fun (r : Int32) (u : (Nat → Int) × Nat × Int32 × Int32 × Int32) => r = nI ((rC tx le (le + 1) 0 ss 0).2))) (w1 := (fun (u : (Nat → Int) × Nat × Int32 × Int32 × Int32) => [(mh, .inr (8, [.int (nI (0)), .ref m1, .ref m2, .int (nI (min (kn + 1) 6)), .ref m3, .int (nI (ke)), .ref m4, .int (nI (0)), .ref m5, .int (nI (u.2.1)), .int (nI (0)), .int (u.2.2.1), .int (u.2.2.2.1), .int (u.2.2.2.2), .int (nI ((rC tx le (le + 1) 0 ss 0).2))])), (m1, .inl (cI G, 205, .inl (fun z9 => iI (((rC tx le (le + 1) 0 ss 0).1) z9)))), (m2, .inl (cI G, 1230, .inl (fun z9 => iI ((recH hi ss kn) z9)))), (m3, .inl (cI G, 410, .inl (fun z9 => iI (sl z9)))), (m4, .inl (cI G, 80, .inl (fun z9 => nI (tx z9)))), (m5, .inl (cI G, 128, .inl (fun z9 => iI (u.1 z9))))])) (u_14) hx hb hr hlocks hP hS (by exact rfl) (by exact rfl) dX9_runText_44
    · have f_17 : (1 : Int) = (0 : Int) := (c_eq (nI_toInt (n := 1) (by omega)) rfl).mp c_9
      exfalso; omega
  · have f_18 : ¬ ((u_1.1 : Nat) : Int) = (0 : Int) := fun z => c_4 ((c_eq (nI_toInt (n := u_1.1) (by omega)) rfl).mpr z)
    exfalso; omega

set_option maxHeartbeats 4000000 in
set_option maxRecDepth 100000 in
theorem c_X9_runText_1 {l : Launch} {G : GT} {H0 : Heap} (mh m1 m2 m3 m4 m5 : Nat) (ss hi sl : Nat → Int) (tx : Nat → Nat) (ne : Nat → Int) (th : Int32) (kn ke le : Nat) (sp wr si on tw dn : Int32) (htx : T128 tx) (hle : le ≤ 80) (hok : ¬ FE tx le = -1) (hP0 : PP G ([(mh, .inr (8, [.int (th), .ref m1, .ref m2, .int (nI (kn)), .ref m3, .int (nI (ke)), .ref m4, .int (nI (le)), .ref m5, .int (sp), .int (wr), .int (si), .int (on), .int (tw), .int (dn)])), (m1, .inl (cI G, 205, .inl (fun z9 => iI (ss z9)))), (m2, .inl (cI G, 1230, .inl (fun z9 => iI (hi z9)))), (m3, .inl (cI G, 410, .inl (fun z9 => iI (sl z9)))), (m4, .inl (cI G, 80, .inl (fun z9 => nI (tx z9)))), (m5, .inl (cI G, 128, .inl (fun z9 => iI (ne z9))))]) H0) (hB0 : va_D (lo G) ([(mh, .inr (8, [.int (th), .ref m1, .ref m2, .int (nI (kn)), .ref m3, .int (nI (ke)), .ref m4, .int (nI (le)), .ref m5, .int (sp), .int (wr), .int (si), .int (on), .int (tw), .int (dn)])), (m1, .inl (cI G, 205, .inl (fun z9 => iI (ss z9)))), (m2, .inl (cI G, 1230, .inl (fun z9 => iI (hi z9)))), (m3, .inl (cI G, 410, .inl (fun z9 => iI (sl z9)))), (m4, .inl (cI G, 80, .inl (fun z9 => nI (tx z9)))), (m5, .inl (cI G, 128, .inl (fun z9 => iI (ne z9))))])) : Met l yX9_runText wsX9_runText ({ frames := 5, cells := 0, slots := 0, locals := 112 } : Room) (pcG G [.ref mh] H0) (qMi G (fun (r : Int32) (u : Nat × Nat × Int32 × Int32 × Int32) => r = nI 0) (fun (u : Nat × Nat × Int32 × Int32 × Int32) => [(mh, .inr (8, [.int (nI (1)), .ref m1, .ref m2, .int (nI (kn)), .ref m3, .int (nI (ke)), .ref m4, .int (nI (le)), .ref m5, .int (nI (u.2.1)), .int (nI (u.1)), .int (u.2.2.1), .int (u.2.2.2.1), .int (u.2.2.2.2), .int (nI (0))])), (m1, .inl (cI G, 205, .inl (fun z9 => iI (ss z9)))), (m2, .inl (cI G, 1230, .inl (fun z9 => iI (hi z9)))), (m3, .inl (cI G, 410, .inl (fun z9 => iI (sl z9)))), (m4, .inl (cI G, 80, .inl (fun z9 => nI (tx z9)))), (m5, .inl (cI G, 128, .inl (fun z9 => iI (ne z9))))]) ([(mh, .inr (8, [.int (th), .ref m1, .ref m2, .int (nI (kn)), .ref m3, .int (nI (ke)), .ref m4, .int (nI (le)), .ref m5, .int (sp), .int (wr), .int (si), .int (on), .int (tw), .int (dn)])), (m1, .inl (cI G, 205, .inl (fun z9 => iI (ss z9)))), (m2, .inl (cI G, 1230, .inl (fun z9 => iI (hi z9)))), (m3, .inl (cI G, 410, .inl (fun z9 => iI (sl z9)))), (m4, .inl (cI G, 80, .inl (fun z9 => nI (tx z9)))), (m5, .inl (cI G, 128, .inl (fun z9 => iI (ne z9))))]) H0) 0 0 (va_A ([(mh, .inr (8, [.int (th), .ref m1, .ref m2, .int (nI (kn)), .ref m3, .int (nI (ke)), .ref m4, .int (nI (le)), .ref m5, .int (sp), .int (wr), .int (si), .int (on), .int (tw), .int (dn)])), (m1, .inl (cI G, 205, .inl (fun z9 => iI (ss z9)))), (m2, .inl (cI G, 1230, .inl (fun z9 => iI (hi z9)))), (m3, .inl (cI G, 410, .inl (fun z9 => iI (sl z9)))), (m4, .inl (cI G, 80, .inl (fun z9 => nI (tx z9)))), (m5, .inl (cI G, 128, .inl (fun z9 => iI (ne z9))))]) H0.size) := by
  refine enter (cc := cX9_runText) (maxL := 1) (ret := some .int) (own := RX9) (lv := [(0, .ref mh)]) (by decide) rfl rfl rfl (Nat.le_of_ble_eq_true rfl) ?_
  intro pg ev s m below meth c hx hb hr hts hown hlocks hml hnm hH hC ls hl
  subst hH
  have hLo := va_freeB hB0 hC.2.2.2.1
  have hD := hB0.self (sz := s.heap.size)
  have hS : va_S (va_A ([(mh, .inr (8, [.int (th), .ref m1, .ref m2, .int (nI (kn)), .ref m3, .int (nI (ke)), .ref m4, .int (nI (le)), .ref m5, .int (sp), .int (wr), .int (si), .int (on), .int (tw), .int (dn)])), (m1, .inl (cI G, 205, .inl (fun z9 => iI (ss z9)))), (m2, .inl (cI G, 1230, .inl (fun z9 => iI (hi z9)))), (m3, .inl (cI G, 410, .inl (fun z9 => iI (sl z9)))), (m4, .inl (cI G, 80, .inl (fun z9 => nI (tx z9)))), (m5, .inl (cI G, 128, .inl (fun z9 => iI (ne z9))))]) s.heap.size) s.heap s.heap [] := va_S.rf
  unfold qMi
  generalize hAe : va_A ([(mh, .inr (8, [.int (th), .ref m1, .ref m2, .int (nI (kn)), .ref m3, .int (nI (ke)), .ref m4, .int (nI (le)), .ref m5, .int (sp), .int (wr), .int (si), .int (on), .int (tw), .int (dn)])), (m1, .inl (cI G, 205, .inl (fun z9 => iI (ss z9)))), (m2, .inl (cI G, 1230, .inl (fun z9 => iI (hi z9)))), (m3, .inl (cI G, 410, .inl (fun z9 => iI (sl z9)))), (m4, .inl (cI G, 80, .inl (fun z9 => nI (tx z9)))), (m5, .inl (cI G, 128, .inl (fun z9 => iI (ne z9))))]) s.heap.size = A at hD hLo hS ⊢
  have hA : ∀ q, s.heap.size ≤ q → A q := fun q h => by rw [← hAe]; exact Or.inr h
  generalize ([] : List Loc) = locs at hS ⊢
  have hP := hP0
  refine lv_aload_n hx hb dX9_runText_0 rfl (lv_at hl 0 rfl) ?_
  refine lv_iconst (v := nI (0)) hx hb dX9_runText_1 (by decide) ?_
  refine kMv (va_runV (As := [.int (nI (0))]) (rest := []) ⟨hx, hb, hml, hown, hts⟩ (c_gt0 mh m1 m2 m3 m4 m5 ss hi sl tx ne th kn ke le sp wr si on tw dn (by first | assumption | omega) (by first | assumption | omega) (hP.sub [0, 1, 2, 3, 4, 5] rfl) ((hD.sub [0, 1, 2, 3, 4, 5] (by decide) rfl).weaken (fun _ _ _ h => hLo _ h))) (cwV 1 hts gX9_runText_X9_goesThrough rfl rfl rfl (by decide +kernel) ⟨Nat.le_of_ble_eq_true rfl, Nat.le_of_ble_eq_true rfl⟩) (preV hC hS hLo hP (ci := 8) (q0 := 0) rfl rfl) rfl rfl hl.1 rfl (lv_room (Nat.le_of_ble_eq_true rfl)) dX9_runText_2 ⟨Nat.zero_le _, Nat.zero_le _⟩) hP hD hS hA [0, 1, 2, 3, 4, 5] (by decide) rfl (fun _ => rfl) (fun u_1 H locs q_2 hP hD hS => ?_)
  have hP : PP G ([(mh, .inr (8, [.int (th), .ref m1, .ref m2, .int (nI (kn)), .ref m3, .int (nI (ke)), .ref m4, .int (nI (le)), .ref m5, .int (nI (u_1.2.1)), .int (nI (u_1.1)), .int (u_1.2.2.1), .int (u_1.2.2.2.1), .int (u_1.2.2.2.2), .int (nI (0))])), (m1, .inl (cI G, 205, .inl (fun z9 => iI (ss z9)))), (m2, .inl (cI G, 1230, .inl (fun z9 => iI (hi z9)))), (m3, .inl (cI G, 410, .inl (fun z9 => iI (sl z9)))), (m4, .inl (cI G, 80, .inl (fun z9 => nI (tx z9)))), (m5, .inl (cI G, 128, .inl (fun z9 => iI (ne z9))))]) H := hP
  have hD : va_D A ([(mh, .inr (8, [.int (th), .ref m1, .ref m2, .int (nI (kn)), .ref m3, .int (nI (ke)), .ref m4, .int (nI (le)), .ref m5, .int (nI (u_1.2.1)), .int (nI (u_1.1)), .int (u_1.2.2.1), .int (u_1.2.2.2.1), .int (u_1.2.2.2.2), .int (nI (0))])), (m1, .inl (cI G, 205, .inl (fun z9 => iI (ss z9)))), (m2, .inl (cI G, 1230, .inl (fun z9 => iI (hi z9)))), (m3, .inl (cI G, 410, .inl (fun z9 => iI (sl z9)))), (m4, .inl (cI G, 80, .inl (fun z9 => nI (tx z9)))), (m5, .inl (cI G, 128, .inl (fun z9 => iI (ne z9))))]) := hD
  have hw0 : u_1.1 = 1 := by have q9 := q_2; omega
  refine lv_aload_n hx hb dX9_runText_5 rfl (lv_at hl 0 rfl) ?_
  refine lv_aload_n hx hb dX9_runText_6 rfl (lv_at hl 0 rfl) ?_
  refine va_get (D := gD G) (cl := vwCl) (tys := tyl G) (ci := 8) (v := .int (nI (u_1.1))) (C := RX9) (T := TX9) (N := 15) hx hb hts (by decide +kernel) hown hC.K hP 0 rfl rfl 10 (by decide) (hts (.fieldLink RX9 127 "MotionPostModel" "isWrong" "Z") (by decide +kernel)) (fun _ h9 => h9) rfl dX9_runText_7 ?_
  refine lv_if_eq (tgt := 17) hx hb dX9_runText_10 (by decide) (fun c_4 => ?_) (fun c_4 => ?_)
  · have f_5 : ((u_1.1 : Nat) : Int) = (0 : Int) := (c_eq (nI_toInt (n := u_1.1) (by omega)) rfl).mp c_4
    exfalso; omega
  · have f_6 : ¬ ((u_1.1 : Nat) : Int) = (0 : Int) := fun z => c_4 ((c_eq (nI_toInt (n := u_1.1) (by omega)) rfl).mpr z)
    refine lv_iconst (v := nI (1)) hx hb dX9_runText_13 (by decide) ?_
    refine lv_goto (tgt := 18) hx hb dX9_runText_14 (by decide) ?_
    refine kMi (va_runV (As := [.int (nI (1))]) (rest := []) ⟨hx, hb, hml, hown, hts⟩ (c_X9_holds mh m1 m2 m3 m4 m5 ss hi sl tx ne th kn ke le (nI (u_1.2.1)) (nI (u_1.1)) u_1.2.2.1 u_1.2.2.2.1 u_1.2.2.2.2 (nI (0)) 1 (by first | assumption | omega) (hP.sub [0, 1, 2, 3, 4, 5] rfl) ((hD.sub [0, 1, 2, 3, 4, 5] (by decide) rfl).weaken (fun _ _ _ h => hLo _ h))) (cwV 1 hts gX9_runText_X9_holds rfl rfl rfl (by decide +kernel) ⟨Nat.le_of_ble_eq_true rfl, Nat.le_of_ble_eq_true rfl⟩) (preV hC hS hLo hP (ci := 8) (q0 := 0) rfl rfl) rfl rfl hl.1 rfl (lv_room (Nat.le_of_ble_eq_true rfl)) dX9_runText_18 ⟨Nat.zero_le _, Nat.zero_le _⟩) hP hD hS hA [0, 1, 2, 3, 4, 5] (by decide) rfl (fun _ => rfl) (fun r_9 u_7 H locs q_8 hP hD hS => ?_)
    have hP : PP G ([(mh, .inr (8, [.int (nI (1)), .ref m1, .ref m2, .int (nI (kn)), .ref m3, .int (nI (ke)), .ref m4, .int (nI (le)), .ref m5, .int (nI (u_1.2.1)), .int (nI (u_1.1)), .int (u_1.2.2.1), .int (u_1.2.2.2.1), .int (u_1.2.2.2.2), .int (nI (0))])), (m1, .inl (cI G, 205, .inl (fun z9 => iI (ss z9)))), (m2, .inl (cI G, 1230, .inl (fun z9 => iI (hi z9)))), (m3, .inl (cI G, 410, .inl (fun z9 => iI (sl z9)))), (m4, .inl (cI G, 80, .inl (fun z9 => nI (tx z9)))), (m5, .inl (cI G, 128, .inl (fun z9 => iI (ne z9))))]) H := hP
    have hD : va_D A ([(mh, .inr (8, [.int (nI (1)), .ref m1, .ref m2, .int (nI (kn)), .ref m3, .int (nI (ke)), .ref m4, .int (nI (le)), .ref m5, .int (nI (u_1.2.1)), .int (nI (u_1.1)), .int (u_1.2.2.1), .int (u_1.2.2.2.1), .int (u_1.2.2.2.2), .int (nI (0))])), (m1, .inl (cI G, 205, .inl (fun z9 => iI (ss z9)))), (m2, .inl (cI G, 1230, .inl (fun z9 => iI (hi z9)))), (m3, .inl (cI G, 410, .inl (fun z9 => iI (sl z9)))), (m4, .inl (cI G, 80, .inl (fun z9 => nI (tx z9)))), (m5, .inl (cI G, 128, .inl (fun z9 => iI (ne z9))))]) := hD
    refine topE (v' := nI (0)) (q_8.trans (bI_f (by omega))) ?_
    refine lv_if_ne (tgt := 26) hx hb dX9_runText_21 (by decide) (fun c_10 => ?_) (fun c_10 => ?_)
    · have f_11 : ¬ (0 : Int) = (0 : Int) := fun z => c_10 ((c_eq (nI_toInt (n := 0) (by omega)) rfl).mpr z)
      exfalso; omega
    · have f_12 : (0 : Int) = (0 : Int) := (c_eq (nI_toInt (n := 0) (by omega)) rfl).mp c_10
      refine lv_iconst (v := nI (0)) hx hb dX9_runText_24 (by decide) ?_
      exact xMi (G := G) (post := (fun (r : Int32) (u : Nat × Nat × Int32 × Int32 × Int32) => r = nI 0)) (w1 := (fun (u : Nat × Nat × Int32 × Int32 × Int32) => [(mh, .inr (8, [.int (nI (1)), .ref m1, .ref m2, .int (nI (kn)), .ref m3, .int (nI (ke)), .ref m4, .int (nI (le)), .ref m5, .int (nI (u.2.1)), .int (nI (u.1)), .int (u.2.2.1), .int (u.2.2.2.1), .int (u.2.2.2.2), .int (nI (0))])), (m1, .inl (cI G, 205, .inl (fun z9 => iI (ss z9)))), (m2, .inl (cI G, 1230, .inl (fun z9 => iI (hi z9)))), (m3, .inl (cI G, 410, .inl (fun z9 => iI (sl z9)))), (m4, .inl (cI G, 80, .inl (fun z9 => nI (tx z9)))), (m5, .inl (cI G, 128, .inl (fun z9 => iI (ne z9))))])) (u_1) hx hb hr hlocks hP hS (by exact rfl) (by exact rfl) dX9_runText_25

set_option maxHeartbeats 4000000 in
set_option maxRecDepth 100000 in
theorem c_X9_appendText {l : Launch} {G : GT} {H0 : Heap} (mh m1 m2 m3 m4 m5 : Nat) (ss hi sl : Nat → Int) (tx : Nat → Nat) (ne : Nat → Int) (th : Int32) (kn ke le : Nat) (sp wr si on tw dn : Int32) (cu : Nat) (hu : cu < 2 ^ 64) (hle : le ≤ 80) (hc0 : ¬ CS cu = 0) (hlk : le + CS cu ≤ 80) (hP0 : PP G ([(mh, .inr (8, [.int (th), .ref m1, .ref m2, .int (nI (kn)), .ref m3, .int (nI (ke)), .ref m4, .int (nI (le)), .ref m5, .int (sp), .int (wr), .int (si), .int (on), .int (tw), .int (dn)])), (m1, .inl (cI G, 205, .inl (fun z9 => iI (ss z9)))), (m2, .inl (cI G, 1230, .inl (fun z9 => iI (hi z9)))), (m3, .inl (cI G, 410, .inl (fun z9 => iI (sl z9)))), (m4, .inl (cI G, 80, .inl (fun z9 => nI (tx z9)))), (m5, .inl (cI G, 128, .inl (fun z9 => iI (ne z9))))]) H0) (hB0 : va_D (lo G) ([(mh, .inr (8, [.int (th), .ref m1, .ref m2, .int (nI (kn)), .ref m3, .int (nI (ke)), .ref m4, .int (nI (le)), .ref m5, .int (sp), .int (wr), .int (si), .int (on), .int (tw), .int (dn)])), (m1, .inl (cI G, 205, .inl (fun z9 => iI (ss z9)))), (m2, .inl (cI G, 1230, .inl (fun z9 => iI (hi z9)))), (m3, .inl (cI G, 410, .inl (fun z9 => iI (sl z9)))), (m4, .inl (cI G, 80, .inl (fun z9 => nI (tx z9)))), (m5, .inl (cI G, 128, .inl (fun z9 => iI (ne z9))))])) : Met l yX9_appendText wsX9_appendText ({ frames := 1, cells := 0, slots := 0, locals := 22 } : Room) (pcG G [.ref mh, .long (lN cu)] H0) (qMi G (fun (r : Int32) (u : Unit) => r = nI (le + CS cu)) (fun (u : Unit) => [(mh, .inr (8, [.int (nI (0)), .ref m1, .ref m2, .int (nI (kn)), .ref m3, .int (nI (ke)), .ref m4, .int (nI (le + CS cu)), .ref m5, .int (sp), .int (wr), .int (si), .int (on), .int (tw), .int (dn)])), (m1, .inl (cI G, 205, .inl (fun z9 => iI (ss z9)))), (m2, .inl (cI G, 1230, .inl (fun z9 => iI (hi z9)))), (m3, .inl (cI G, 410, .inl (fun z9 => iI (sl z9)))), (m4, .inl (cI G, 80, .inl (fun z9 => nI ((adT tx le cu (CS cu) (CS cu)) z9)))), (m5, .inl (cI G, 128, .inl (fun z9 => iI (ne z9))))]) ([(mh, .inr (8, [.int (th), .ref m1, .ref m2, .int (nI (kn)), .ref m3, .int (nI (ke)), .ref m4, .int (nI (le)), .ref m5, .int (sp), .int (wr), .int (si), .int (on), .int (tw), .int (dn)])), (m1, .inl (cI G, 205, .inl (fun z9 => iI (ss z9)))), (m2, .inl (cI G, 1230, .inl (fun z9 => iI (hi z9)))), (m3, .inl (cI G, 410, .inl (fun z9 => iI (sl z9)))), (m4, .inl (cI G, 80, .inl (fun z9 => nI (tx z9)))), (m5, .inl (cI G, 128, .inl (fun z9 => iI (ne z9))))]) H0) 0 0 (va_A ([(mh, .inr (8, [.int (th), .ref m1, .ref m2, .int (nI (kn)), .ref m3, .int (nI (ke)), .ref m4, .int (nI (le)), .ref m5, .int (sp), .int (wr), .int (si), .int (on), .int (tw), .int (dn)])), (m1, .inl (cI G, 205, .inl (fun z9 => iI (ss z9)))), (m2, .inl (cI G, 1230, .inl (fun z9 => iI (hi z9)))), (m3, .inl (cI G, 410, .inl (fun z9 => iI (sl z9)))), (m4, .inl (cI G, 80, .inl (fun z9 => nI (tx z9)))), (m5, .inl (cI G, 128, .inl (fun z9 => iI (ne z9))))]) H0.size) := by
  refine enter (cc := cX9_appendText) (maxL := 7) (ret := some .int) (own := RX9) (lv := [(0, .ref mh), (1, .long (lN cu))]) (by decide) rfl rfl rfl (Nat.le_of_ble_eq_true rfl) ?_
  intro pg ev s m below meth c hx hb hr hts hown hlocks hml hnm hH hC ls hl
  subst hH
  have hLo := va_freeB hB0 hC.2.2.2.1
  have hD := hB0.self (sz := s.heap.size)
  have hS : va_S (va_A ([(mh, .inr (8, [.int (th), .ref m1, .ref m2, .int (nI (kn)), .ref m3, .int (nI (ke)), .ref m4, .int (nI (le)), .ref m5, .int (sp), .int (wr), .int (si), .int (on), .int (tw), .int (dn)])), (m1, .inl (cI G, 205, .inl (fun z9 => iI (ss z9)))), (m2, .inl (cI G, 1230, .inl (fun z9 => iI (hi z9)))), (m3, .inl (cI G, 410, .inl (fun z9 => iI (sl z9)))), (m4, .inl (cI G, 80, .inl (fun z9 => nI (tx z9)))), (m5, .inl (cI G, 128, .inl (fun z9 => iI (ne z9))))]) s.heap.size) s.heap s.heap [] := va_S.rf
  unfold qMi
  generalize hAe : va_A ([(mh, .inr (8, [.int (th), .ref m1, .ref m2, .int (nI (kn)), .ref m3, .int (nI (ke)), .ref m4, .int (nI (le)), .ref m5, .int (sp), .int (wr), .int (si), .int (on), .int (tw), .int (dn)])), (m1, .inl (cI G, 205, .inl (fun z9 => iI (ss z9)))), (m2, .inl (cI G, 1230, .inl (fun z9 => iI (hi z9)))), (m3, .inl (cI G, 410, .inl (fun z9 => iI (sl z9)))), (m4, .inl (cI G, 80, .inl (fun z9 => nI (tx z9)))), (m5, .inl (cI G, 128, .inl (fun z9 => iI (ne z9))))]) s.heap.size = A at hD hLo hS ⊢
  have hA : ∀ q, s.heap.size ≤ q → A q := fun q h => by rw [← hAe]; exact Or.inr h
  generalize ([] : List Loc) = locs at hS ⊢
  have hP := hP0
  refine lv_iconst (v := nI (0)) hx hb dX9_appendText_0 (by decide) ?_
  refine lv_istore_n (lv' := [(3, .int (nI (0))), (0, .ref mh), (1, .long (lN cu))]) hx hb dX9_appendText_1 rfl hl (by decide) rfl (fun ls hl => ?_)
  refine lv_iconst (v := nI (1)) hx hb dX9_appendText_2 (by decide) ?_
  refine lv_istore (lv' := [(4, .int (nI (1))), (3, .int (nI (0))), (0, .ref mh), (1, .long (lN cu))]) hx hb dX9_appendText_3 hl (by decide) rfl (fun ls hl => ?_)
  refine lv_lload_n hx hb dX9_appendText_5 rfl (lv_at hl 3 rfl) ?_
  refine lv_lstore (lv' := [(5, .long (lN cu)), (4, .int (nI (1))), (3, .int (nI (0))), (0, .ref mh), (1, .long (lN cu))]) hx hb dX9_appendText_6 hl (by decide) rfl (fun ls hl => ?_)
  have L_8 : ∀ (n_8 : Nat) (i r : Nat) (gd : Prop), r < n_8 → (i ≤ 8) → (r < 2 ^ 64) → (r < 256 ^ (8 - i)) → ((gd → CS cu = csF (8 - i) r i) ∧ (¬ gd → CS cu = 0)) → ∀ (H : Heap) (locs : List Loc) (ls : Array Slot), PP G ([(mh, .inr (8, [.int (th), .ref m1, .ref m2, .int (nI (kn)), .ref m3, .int (nI (ke)), .ref m4, .int (nI (le)), .ref m5, .int (sp), .int (wr), .int (si), .int (on), .int (tw), .int (dn)])), (m1, .inl (cI G, 205, .inl (fun z9 => iI (ss z9)))), (m2, .inl (cI G, 1230, .inl (fun z9 => iI (hi z9)))), (m3, .inl (cI G, 410, .inl (fun z9 => iI (sl z9)))), (m4, .inl (cI G, 80, .inl (fun z9 => nI (tx z9)))), (m5, .inl (cI G, 128, .inl (fun z9 => iI (ne z9))))]) H → va_D A ([(mh, .inr (8, [.int (th), .ref m1, .ref m2, .int (nI (kn)), .ref m3, .int (nI (ke)), .ref m4, .int (nI (le)), .ref m5, .int (sp), .int (wr), .int (si), .int (on), .int (tw), .int (dn)])), (m1, .inl (cI G, 205, .inl (fun z9 => iI (ss z9)))), (m2, .inl (cI G, 1230, .inl (fun z9 => iI (hi z9)))), (m3, .inl (cI G, 410, .inl (fun z9 => iI (sl z9)))), (m4, .inl (cI G, 80, .inl (fun z9 => nI (tx z9)))), (m5, .inl (cI G, 128, .inl (fun z9 => iI (ne z9))))]) → va_S A s.heap H locs → lv_has ls 7 [(0, .ref mh), (1, .long (lN cu)), (3, .int (nI (i))), (4, .int (bI (gd))), (5, .long (lN r))] → W pg l ev ({ frames := 1, cells := 0, slots := 0, locals := 22 } : Room) s m (([.ref mh, .long (lN cu)] : List Value).toArray) below meth c H locs 0 0 (MQ below (va_Qi (fun (r : Int32) (u : Unit) => r = nI (le + CS cu)) (fun (u : Unit) t9 => PP G ([(mh, .inr (8, [.int (nI (0)), .ref m1, .ref m2, .int (nI (kn)), .ref m3, .int (nI (ke)), .ref m4, .int (nI (le + CS cu)), .ref m5, .int (sp), .int (wr), .int (si), .int (on), .int (tw), .int (dn)])), (m1, .inl (cI G, 205, .inl (fun z9 => iI (ss z9)))), (m2, .inl (cI G, 1230, .inl (fun z9 => iI (hi z9)))), (m3, .inl (cI G, 410, .inl (fun z9 => iI (sl z9)))), (m4, .inl (cI G, 80, .inl (fun z9 => nI ((adT tx le cu (CS cu) (CS cu)) z9)))), (m5, .inl (cI G, 128, .inl (fun z9 => iI (ne z9))))]) t9.heap) A) (([.ref mh, .long (lN cu)] : List Value).toArray) s 0 0 A) (F0 m 8 ls []) := by
    intro n_8
    induction n_8 with
    | zero => intro i r gd hn; exact absurd hn (Nat.not_lt_zero _)
    | succ n_8 ih_8 =>
      intro i r gd hn_8 hi9 hr9 hri hcs H locs ls hP hD hS hl
      refine lv_lload hx hb dX9_appendText_8 (lv_at hl 4 rfl) ?_
      refine lv_lconst (v := 0) hx hb dX9_appendText_10 (by decide) ?_
      refine W.lcmp hx hb dX9_appendText_11 ?_
      refine topE (v' := iI (lc0 r)) (lg_l0 (by assumption)) ?_
      have hz4 := lc0_in r
      refine lv_if_eq (tgt := 57) hx hb dX9_appendText_12 (by decide) (fun c_1 => ?_) (fun c_1 => ?_)
      · have f_2 : (lc0 r) = (0 : Int) := (c_eq (iI_toInt (by omega) (by omega)) rfl).mp c_1
        have hxe := ap_e (lc0_z.mp f_2) hcs
        refine lv_aload_n hx hb dX9_appendText_57 rfl (lv_at hl 0 rfl) ?_
        refine lv_iload_n hx hb dX9_appendText_58 rfl (lv_at hl 2 rfl) ?_
        refine lv_if_eq (tgt := 67) hx hb dX9_appendText_59 (by decide) (fun c_3 => ?_) (fun c_3 => ?_)
        · have f_4 : ((i : Nat) : Int) = (0 : Int) := (c_eq (nI_toInt (n := i) (by omega)) rfl).mp c_3
          exact absurd (Classical.byCases (fun g9 : gd => (hxe.1 g9).trans (by omega)) (fun g9 => hxe.2 g9)) hc0
        · have f_5 : ¬ ((i : Nat) : Int) = (0 : Int) := fun z => c_3 ((c_eq (nI_toInt (n := i) (by omega)) rfl).mpr z)
          refine lv_iload hx hb dX9_appendText_62 (lv_at hl 3 rfl) ?_
          refine lv_if_ne (tgt := 71) hx hb dX9_appendText_64 (by decide) (fun c_6 => ?_) (fun c_6 => ?_)
          · have f_7 : (gd) := Classical.byContradiction (fun z => c_6 (bI_0.mpr z))
            have hci := CS_le cu
            have e_i : i = CS cu := (hxe.1 (by assumption)).symm
            replace e_i := e_i.symm
            subst e_i
            refine lv_aload_n hx hb dX9_appendText_71 rfl (lv_at hl 0 rfl) ?_
            refine va_get (D := gD G) (cl := vwCl) (tys := tyl G) (ci := 8) (v := .int (nI (le))) (C := RX9) (T := TX9) (N := 15) hx hb hts (by decide +kernel) hown hC.K hP 0 rfl rfl 7 (by decide) (hts (.fieldLink RX9 124 "MotionPostModel" "length" "I") (by decide +kernel)) (fun _ h9 => h9) rfl dX9_appendText_72 ?_
            refine lv_iload_n hx hb dX9_appendText_75 rfl (lv_at hl 2 rfl) ?_
            refine gAdd (z := nI (le + (CS cu))) hx hb dX9_appendText_76 (nI_add _ _) ?_
            refine lv_bipush (v := nI (80)) hx hb dX9_appendText_77 (by decide) ?_
            refine lv_icmp_le (tgt := 86) hx hb dX9_appendText_79 (by decide) (fun c_8 => ?_) (fun c_8 => ?_)
            · have f_9 : ((le + (CS cu) : Nat) : Int) ≤ (80 : Int) := (c_le (nI_toInt (n := le + (CS cu)) (by omega)) (nI_toInt (n := 80) (by omega))).mp c_8
              refine lv_iconst (v := nI (0)) hx hb dX9_appendText_86 (by decide) ?_
              refine kMi (va_runV (As := [.int (nI (0))]) (rest := []) ⟨hx, hb, hml, hown, hts⟩ (c_X9_holds mh m1 m2 m3 m4 m5 ss hi sl tx ne th kn ke le sp wr si on tw dn 0 (by first | assumption | omega) (hP.sub [0, 1, 2, 3, 4, 5] rfl) ((hD.sub [0, 1, 2, 3, 4, 5] (by decide) rfl).weaken (fun _ _ _ h => hLo _ h))) (cwV 1 hts gX9_appendText_X9_holds rfl rfl rfl (by decide +kernel) ⟨Nat.le_of_ble_eq_true rfl, Nat.le_of_ble_eq_true rfl⟩) (preV hC hS hLo hP (ci := 8) (q0 := 0) rfl rfl) rfl rfl hl.1 rfl (lv_room (Nat.le_of_ble_eq_true rfl)) dX9_appendText_87 ⟨Nat.zero_le _, Nat.zero_le _⟩) hP hD hS hA [0, 1, 2, 3, 4, 5] (by decide) rfl (fun _ => rfl) (fun r_12 u_10 H locs q_11 hP hD hS => ?_)
              have hP : PP G ([(mh, .inr (8, [.int (nI (0)), .ref m1, .ref m2, .int (nI (kn)), .ref m3, .int (nI (ke)), .ref m4, .int (nI (le)), .ref m5, .int (sp), .int (wr), .int (si), .int (on), .int (tw), .int (dn)])), (m1, .inl (cI G, 205, .inl (fun z9 => iI (ss z9)))), (m2, .inl (cI G, 1230, .inl (fun z9 => iI (hi z9)))), (m3, .inl (cI G, 410, .inl (fun z9 => iI (sl z9)))), (m4, .inl (cI G, 80, .inl (fun z9 => nI (tx z9)))), (m5, .inl (cI G, 128, .inl (fun z9 => iI (ne z9))))]) H := hP
              have hD : va_D A ([(mh, .inr (8, [.int (nI (0)), .ref m1, .ref m2, .int (nI (kn)), .ref m3, .int (nI (ke)), .ref m4, .int (nI (le)), .ref m5, .int (sp), .int (wr), .int (si), .int (on), .int (tw), .int (dn)])), (m1, .inl (cI G, 205, .inl (fun z9 => iI (ss z9)))), (m2, .inl (cI G, 1230, .inl (fun z9 => iI (hi z9)))), (m3, .inl (cI G, 410, .inl (fun z9 => iI (sl z9)))), (m4, .inl (cI G, 80, .inl (fun z9 => nI (tx z9)))), (m5, .inl (cI G, 128, .inl (fun z9 => iI (ne z9))))]) := hD
              refine topE (v' := nI (1)) (q_11.trans (bI_t rfl)) ?_
              refine lv_if_ne (tgt := 95) hx hb dX9_appendText_90 (by decide) (fun c_13 => ?_) (fun c_13 => ?_)
              · have f_14 : ¬ (1 : Int) = (0 : Int) := fun z => c_13 ((c_eq (nI_toInt (n := 1) (by omega)) rfl).mpr z)
                refine lv_iload_n hx hb dX9_appendText_95 rfl (lv_at hl 2 rfl) ?_
                refine lv_iconst (v := nI (1)) hx hb dX9_appendText_96 (by decide) ?_
                refine gSub (z := iI (((CS cu : Nat) : Int) - (1 : Int))) hx hb dX9_appendText_97 (z_sub (nI_i (CS cu)) (nI_i (1))) ?_
                refine lv_istore (lv' := [(5, .int (iI (((CS cu : Nat) : Int) - (1 : Int)))), (0, .ref mh), (1, .long (lN cu)), (3, .int (nI (CS cu))), (4, .int (bI (gd)))]) hx hb dX9_appendText_98 hl (by decide) rfl (fun ls hl => ?_)
                have L_100 : ∀ (n_100 : Nat) (j : Nat), CS cu - j < n_100 → (j ≤ CS cu) → ∀ (H : Heap) (locs : List Loc) (ls : Array Slot), PP G ([(mh, .inr (8, [.int (nI (0)), .ref m1, .ref m2, .int (nI (kn)), .ref m3, .int (nI (ke)), .ref m4, .int (nI (le + j)), .ref m5, .int (sp), .int (wr), .int (si), .int (on), .int (tw), .int (dn)])), (m1, .inl (cI G, 205, .inl (fun z9 => iI (ss z9)))), (m2, .inl (cI G, 1230, .inl (fun z9 => iI (hi z9)))), (m3, .inl (cI G, 410, .inl (fun z9 => iI (sl z9)))), (m4, .inl (cI G, 80, .inl (fun z9 => nI ((adT tx le cu (CS cu) j) z9)))), (m5, .inl (cI G, 128, .inl (fun z9 => iI (ne z9))))]) H → va_D A ([(mh, .inr (8, [.int (nI (0)), .ref m1, .ref m2, .int (nI (kn)), .ref m3, .int (nI (ke)), .ref m4, .int (nI (le + j)), .ref m5, .int (sp), .int (wr), .int (si), .int (on), .int (tw), .int (dn)])), (m1, .inl (cI G, 205, .inl (fun z9 => iI (ss z9)))), (m2, .inl (cI G, 1230, .inl (fun z9 => iI (hi z9)))), (m3, .inl (cI G, 410, .inl (fun z9 => iI (sl z9)))), (m4, .inl (cI G, 80, .inl (fun z9 => nI ((adT tx le cu (CS cu) j) z9)))), (m5, .inl (cI G, 128, .inl (fun z9 => iI (ne z9))))]) → va_S A s.heap H locs → lv_has ls 7 [(0, .ref mh), (1, .long (lN cu)), (3, .int (nI (CS cu))), (5, .int (iI (((CS cu - j : Nat) : Int) - 1)))] → W pg l ev ({ frames := 1, cells := 0, slots := 0, locals := 22 } : Room) s m (([.ref mh, .long (lN cu)] : List Value).toArray) below meth c H locs 0 0 (MQ below (va_Qi (fun (r : Int32) (u : Unit) => r = nI (le + CS cu)) (fun (u : Unit) t9 => PP G ([(mh, .inr (8, [.int (nI (0)), .ref m1, .ref m2, .int (nI (kn)), .ref m3, .int (nI (ke)), .ref m4, .int (nI (le + CS cu)), .ref m5, .int (sp), .int (wr), .int (si), .int (on), .int (tw), .int (dn)])), (m1, .inl (cI G, 205, .inl (fun z9 => iI (ss z9)))), (m2, .inl (cI G, 1230, .inl (fun z9 => iI (hi z9)))), (m3, .inl (cI G, 410, .inl (fun z9 => iI (sl z9)))), (m4, .inl (cI G, 80, .inl (fun z9 => nI ((adT tx le cu (CS cu) (CS cu)) z9)))), (m5, .inl (cI G, 128, .inl (fun z9 => iI (ne z9))))]) t9.heap) A) (([.ref mh, .long (lN cu)] : List Value).toArray) s 0 0 A) (F0 m 100 ls []) := by
                  intro n_100
                  induction n_100 with
                  | zero => intro j hn; exact absurd hn (Nat.not_lt_zero _)
                  | succ n_100 ih_100 =>
                    intro j hn_100 hj9 H locs ls hP hD hS hl
                    refine lv_iload hx hb dX9_appendText_100 (lv_at hl 3 rfl) ?_
                    refine lv_if_lt (tgt := 142) hx hb dX9_appendText_102 (by decide) (fun c_15 => ?_) (fun c_15 => ?_)
                    · have f_16 : (((CS cu - j : Nat) : Int) - 1) < (0 : Int) := (c_lt (iI_toInt (by omega) (by omega)) rfl).mp c_15
                      have e_j : j = CS cu := by omega
                      replace e_j := e_j.symm
                      subst e_j
                      refine lv_aload_n hx hb dX9_appendText_142 rfl (lv_at hl 0 rfl) ?_
                      refine va_get (D := gD G) (cl := vwCl) (tys := tyl G) (ci := 8) (v := .int (nI (le + (CS cu)))) (C := RX9) (T := TX9) (N := 15) hx hb hts (by decide +kernel) hown hC.K hP 0 rfl rfl 7 (by decide) (hts (.fieldLink RX9 124 "MotionPostModel" "length" "I") (by decide +kernel)) (fun _ h9 => h9) rfl dX9_appendText_143 ?_
                      exact xMi (G := G) (post := (fun (r : Int32) (u : Unit) => r = nI (le + CS cu))) (w1 := (fun (u : Unit) => [(mh, .inr (8, [.int (nI (0)), .ref m1, .ref m2, .int (nI (kn)), .ref m3, .int (nI (ke)), .ref m4, .int (nI (le + CS cu)), .ref m5, .int (sp), .int (wr), .int (si), .int (on), .int (tw), .int (dn)])), (m1, .inl (cI G, 205, .inl (fun z9 => iI (ss z9)))), (m2, .inl (cI G, 1230, .inl (fun z9 => iI (hi z9)))), (m3, .inl (cI G, 410, .inl (fun z9 => iI (sl z9)))), (m4, .inl (cI G, 80, .inl (fun z9 => nI ((adT tx le cu (CS cu) (CS cu)) z9)))), (m5, .inl (cI G, 128, .inl (fun z9 => iI (ne z9))))])) (()) hx hb hr hlocks hP hS (by exact rfl) (by exact rfl) dX9_appendText_146
                    · have f_17 : ¬ (((CS cu - j : Nat) : Int) - 1) < (0 : Int) := fun z => c_15 ((c_lt (iI_toInt (by omega) (by omega)) rfl).mpr z)
                      refine lv_aload_n hx hb dX9_appendText_105 rfl (lv_at hl 0 rfl) ?_
                      refine va_get (D := gD G) (cl := vwCl) (tys := tyl G) (ci := 8) (v := .ref m4) (C := RX9) (T := TX9) (N := 15) hx hb hts (by decide +kernel) hown hC.K hP 0 rfl rfl 6 (by decide) (hts (.fieldLink RX9 19 "MotionPostModel" "text" "[I") (by decide +kernel)) (fun _ h9 => h9) rfl dX9_appendText_106 ?_
                      refine lv_aload_n hx hb dX9_appendText_109 rfl (lv_at hl 0 rfl) ?_
                      refine va_get (D := gD G) (cl := vwCl) (tys := tyl G) (ci := 8) (v := .int (nI (le + j))) (C := RX9) (T := TX9) (N := 15) hx hb hts (by decide +kernel) hown hC.K hP 0 rfl rfl 7 (by decide) (hts (.fieldLink RX9 124 "MotionPostModel" "length" "I") (by decide +kernel)) (fun _ h9 => h9) rfl dX9_appendText_110 ?_
                      refine lv_lload_n hx hb dX9_appendText_113 rfl (lv_at hl 1 rfl) ?_
                      refine lv_bipush (v := nI (8)) hx hb dX9_appendText_114 (by decide) ?_
                      refine lv_iload hx hb dX9_appendText_116 (lv_at hl 3 rfl) ?_
                      refine gMul (z := nI (8 * (CS cu - 1 - j))) hx hb dX9_appendText_118 ((z_mul (nI_i 8) rfl).trans (by rw [nI_i]; congr 1; omega)) ?_
                      refine lv_lshr (v := (lN cu) >>> ((nI (8 * (CS cu - 1 - j))).toInt64 &&& 63)) hx hb dX9_appendText_119 (rfl) ?_
                      refine lv_ldc2 (v := 255) hx hb hown (hts (.constantLong RX9 122 (255)) (by decide +kernel)) dX9_appendText_120 ?_
                      refine g_land (z := lN (sgA cu (CS cu) j)) hx hb dX9_appendText_123 (ls_and hu (by omega)) ?_
                      refine lv_l2i (v := nI (sgA cu (CS cu) j)) hx hb dX9_appendText_124 (l2i_N (Nat.mod_lt _ (by decide))) ?_
                      refine gIast (j := le + j) (f' := fun z9 => nI ((va_up (adT tx le cu (CS cu) j) (le + j) (sgA cu (CS cu) j)) z9)) hx hb hC.K hP hD hS 4 0 rfl rfl (rfl) (by omega) (by decide) (upn_N _ _ _) dX9_appendText_125 (fun H locs hP hD hS => ?_)
                      have hP : PP G ([(mh, .inr (8, [.int (nI (0)), .ref m1, .ref m2, .int (nI (kn)), .ref m3, .int (nI (ke)), .ref m4, .int (nI (le + j)), .ref m5, .int (sp), .int (wr), .int (si), .int (on), .int (tw), .int (dn)])), (m1, .inl (cI G, 205, .inl (fun z9 => iI (ss z9)))), (m2, .inl (cI G, 1230, .inl (fun z9 => iI (hi z9)))), (m3, .inl (cI G, 410, .inl (fun z9 => iI (sl z9)))), (m4, .inl (cI G, 80, .inl (fun z9 => nI ((va_up (adT tx le cu (CS cu) j) (le + j) (sgA cu (CS cu) j)) z9)))), (m5, .inl (cI G, 128, .inl (fun z9 => iI (ne z9))))]) H := hP
                      have hD : va_D A ([(mh, .inr (8, [.int (nI (0)), .ref m1, .ref m2, .int (nI (kn)), .ref m3, .int (nI (ke)), .ref m4, .int (nI (le + j)), .ref m5, .int (sp), .int (wr), .int (si), .int (on), .int (tw), .int (dn)])), (m1, .inl (cI G, 205, .inl (fun z9 => iI (ss z9)))), (m2, .inl (cI G, 1230, .inl (fun z9 => iI (hi z9)))), (m3, .inl (cI G, 410, .inl (fun z9 => iI (sl z9)))), (m4, .inl (cI G, 80, .inl (fun z9 => nI ((va_up (adT tx le cu (CS cu) j) (le + j) (sgA cu (CS cu) j)) z9)))), (m5, .inl (cI G, 128, .inl (fun z9 => iI (ne z9))))]) := hD
                      refine lv_aload_n hx hb dX9_appendText_126 rfl (lv_at hl 0 rfl) ?_
                      refine lv_dup hx hb dX9_appendText_127 rfl ?_
                      refine va_get (D := gD G) (cl := vwCl) (tys := tyl G) (ci := 8) (v := .int (nI (le + j))) (C := RX9) (T := TX9) (N := 15) hx hb hts (by decide +kernel) hown hC.K hP 0 rfl rfl 7 (by decide) (hts (.fieldLink RX9 124 "MotionPostModel" "length" "I") (by decide +kernel)) (fun _ h9 => h9) rfl dX9_appendText_128 ?_
                      refine lv_iconst (v := nI (1)) hx hb dX9_appendText_131 (by decide) ?_
                      refine gAdd (z := nI ((le + j) + 1)) hx hb dX9_appendText_132 (nI_add _ _) ?_
                      refine va_put (D := gD G) (cl := vwCl) (tys := tyl G) (ci := 8) (v := .int (nI ((le + j) + 1))) (ty := .int) (C := RX9) (T := TX9) (N := 15) hx hb hts (by decide +kernel) tyX9 tyX9_ok nmX9 hown hC.K hP hD hS 0 rfl rfl 7 (by decide) (hts (.fieldLink RX9 124 "MotionPostModel" "length" "I") (by decide +kernel)) (fun _ h9 => h9) rfl (by decide +kernel) (rfl) rfl (Nat.le_of_ble_eq_true rfl) dX9_appendText_133 (fun H locs hP hD hS => ?_)
                      have hP : PP G ([(mh, .inr (8, [.int (nI (0)), .ref m1, .ref m2, .int (nI (kn)), .ref m3, .int (nI (ke)), .ref m4, .int (nI ((le + j) + 1)), .ref m5, .int (sp), .int (wr), .int (si), .int (on), .int (tw), .int (dn)])), (m1, .inl (cI G, 205, .inl (fun z9 => iI (ss z9)))), (m2, .inl (cI G, 1230, .inl (fun z9 => iI (hi z9)))), (m3, .inl (cI G, 410, .inl (fun z9 => iI (sl z9)))), (m4, .inl (cI G, 80, .inl (fun z9 => nI ((va_up (adT tx le cu (CS cu) j) (le + j) (sgA cu (CS cu) j)) z9)))), (m5, .inl (cI G, 128, .inl (fun z9 => iI (ne z9))))]) H := hP
                      have hD : va_D A ([(mh, .inr (8, [.int (nI (0)), .ref m1, .ref m2, .int (nI (kn)), .ref m3, .int (nI (ke)), .ref m4, .int (nI ((le + j) + 1)), .ref m5, .int (sp), .int (wr), .int (si), .int (on), .int (tw), .int (dn)])), (m1, .inl (cI G, 205, .inl (fun z9 => iI (ss z9)))), (m2, .inl (cI G, 1230, .inl (fun z9 => iI (hi z9)))), (m3, .inl (cI G, 410, .inl (fun z9 => iI (sl z9)))), (m4, .inl (cI G, 80, .inl (fun z9 => nI ((va_up (adT tx le cu (CS cu) j) (le + j) (sgA cu (CS cu) j)) z9)))), (m5, .inl (cI G, 128, .inl (fun z9 => iI (ne z9))))]) := hD
                      refine lv_iinc (v := iI ((((CS cu - j : Nat) : Int) - 1) + (-1))) (lv' := [(5, .int (iI ((((CS cu - j : Nat) : Int) - 1) + (-1)))), (0, .ref mh), (1, .long (lN cu)), (3, .int (nI (CS cu)))]) hx hb dX9_appendText_136 hl (k := 3) rfl (inc_z (((CS cu - j : Nat) : Int) - 1) (-1)) (by decide) rfl (fun ls hl => ?_)
                      refine lv_goto (tgt := 100) hx hb dX9_appendText_139 (by decide) ?_
                      exact ih_100 (j + 1) (by omega) (by omega) H locs ls hP hD hS (lv_sub hl [1, 2, 3, 0] ((lvc rfl (lvc rfl (lvc rfl (lvc (congrArg Value.int (congrArg iI (by omega))) rfl))))))
                exact L_100 (_ + 1) 0 (Nat.lt_succ_self _) (by omega) H locs ls hP hD hS (lv_sub hl [1, 2, 3, 0] (lvc rfl (lvc rfl (lvc rfl (lvc (congrArg Value.int (congrArg iI (by omega))) rfl)))))
              · have f_18 : (1 : Int) = (0 : Int) := (c_eq (nI_toInt (n := 1) (by omega)) rfl).mp c_13
                exfalso; omega
            · have f_19 : ¬ ((le + (CS cu) : Nat) : Int) ≤ (80 : Int) := fun z => c_8 ((c_le (nI_toInt (n := le + (CS cu)) (by omega)) (nI_toInt (n := 80) (by omega))).mpr z)
              exfalso; omega
          · have f_20 : ¬ (gd) := bI_0.mp c_6
            exact absurd (hxe.2 f_20) hc0
      · have f_21 : ¬ (lc0 r) = (0 : Int) := fun z => c_1 ((c_eq (iI_toInt (by omega) (by omega)) rfl).mpr z)
        have hr0 : ¬ r = 0 := fun z9 => f_21 (lc0_z.mpr z9)
        have hi8 := dv_8 hi9 hri hr0
        have J_42 : ∀ (locs : List Loc) (ls : Array Slot), va_S A s.heap H locs → lv_has ls 7 [(0, .ref mh), (1, .long (lN cu)), (3, .int (nI (i))), (4, .int (bI (gd))), (5, .long (lN r))] → W pg l ev ({ frames := 1, cells := 0, slots := 0, locals := 22 } : Room) s m (([.ref mh, .long (lN cu)] : List Value).toArray) below meth c H locs 0 0 (MQ below (va_Qi (fun (r : Int32) (u : Unit) => r = nI (le + CS cu)) (fun (u : Unit) t9 => PP G ([(mh, .inr (8, [.int (nI (0)), .ref m1, .ref m2, .int (nI (kn)), .ref m3, .int (nI (ke)), .ref m4, .int (nI (le + CS cu)), .ref m5, .int (sp), .int (wr), .int (si), .int (on), .int (tw), .int (dn)])), (m1, .inl (cI G, 205, .inl (fun z9 => iI (ss z9)))), (m2, .inl (cI G, 1230, .inl (fun z9 => iI (hi z9)))), (m3, .inl (cI G, 410, .inl (fun z9 => iI (sl z9)))), (m4, .inl (cI G, 80, .inl (fun z9 => nI ((adT tx le cu (CS cu) (CS cu)) z9)))), (m5, .inl (cI G, 128, .inl (fun z9 => iI (ne z9))))]) t9.heap) A) (([.ref mh, .long (lN cu)] : List Value).toArray) s 0 0 A) (F0 m 42 ls [.int (bI (gd ∧ (33 ≤ r % 256 ∧ r % 256 ≤ 126)))]) := by
          intro locs ls hS hl
          refine lv_istore (lv' := [(4, .int (bI (gd ∧ (33 ≤ r % 256 ∧ r % 256 ≤ 126)))), (0, .ref mh), (1, .long (lN cu)), (3, .int (nI (i))), (5, .long (lN r))]) hx hb dX9_appendText_42 hl (by decide) rfl (fun ls hl => ?_)
          refine lv_iinc (v := nI (i + 1)) (lv' := [(3, .int (nI (i + 1))), (4, .int (bI (gd ∧ (33 ≤ r % 256 ∧ r % 256 ≤ 126)))), (0, .ref mh), (1, .long (lN cu)), (5, .long (lN r))]) hx hb dX9_appendText_44 hl (k := 3) rfl (inc_p i 1) (by decide) rfl (fun ls hl => ?_)
          refine lv_lload hx hb dX9_appendText_47 (lv_at hl 4 rfl) ?_
          refine lv_bipush (v := nI (8)) hx hb dX9_appendText_49 (by decide) ?_
          refine lv_lushr (v := lN (r / 256)) hx hb dX9_appendText_51 (wb_shr (k := 8) (by assumption) (by omega)) ?_
          refine lv_lstore (lv' := [(5, .long (lN (r / 256))), (3, .int (nI (i + 1))), (4, .int (bI (gd ∧ (33 ≤ r % 256 ∧ r % 256 ≤ 126)))), (0, .ref mh), (1, .long (lN cu))]) hx hb dX9_appendText_52 hl (by decide) rfl (fun ls hl => ?_)
          refine lv_goto (tgt := 8) hx hb dX9_appendText_54 (by decide) ?_
          exact ih_8 (i + 1) (r / 256) (gd ∧ (33 ≤ r % 256 ∧ r % 256 ≤ 126)) (by omega) (by omega) (by omega) (dv_256 hi8 hri) (ap_s hi8 hr0 hcs) H locs ls hP hD hS (lv_sub hl [3, 4, 1, 2, 0] ((lvc rfl (lvc rfl (lvc (congrArg Value.int (rfl)) (lvc (congrArg Value.int (rfl)) (lvc rfl rfl)))))))
        refine lv_iload hx hb dX9_appendText_15 (lv_at hl 3 rfl) ?_
        refine lv_if_eq (tgt := 41) hx hb dX9_appendText_17 (by decide) (fun c_22 => ?_) (fun c_22 => ?_)
        · have f_23 : ¬ (gd) := bI_0.mp c_22
          refine lv_iconst (v := nI (0)) hx hb dX9_appendText_41 (by decide) ?_
          refine topE (v' := bI (gd ∧ (33 ≤ r % 256 ∧ r % 256 ≤ 126))) ((bI_f (fun z => f_23 z.1)).symm) ?_
          exact J_42 locs ls hS (lv_sub hl [0, 1, 2, 3, 4] (rfl))
        · have f_24 : (gd) := Classical.byContradiction (fun z => c_22 (bI_0.mpr z))
          refine lv_lload hx hb dX9_appendText_20 (lv_at hl 4 rfl) ?_
          refine lv_ldc2 (v := 255) hx hb hown (hts (.constantLong RX9 122 (255)) (by decide +kernel)) dX9_appendText_22 ?_
          refine g_land (z := lN (r % 256)) hx hb dX9_appendText_25 (la255 (by assumption)) ?_
          refine lv_l2i (v := nI (r % 256)) hx hb dX9_appendText_26 (l2i_N (by omega)) ?_
          refine lv_bipush (v := nI (33)) hx hb dX9_appendText_27 (by decide) ?_
          refine lv_bipush (v := nI (126)) hx hb dX9_appendText_29 (by decide) ?_
          refine kPi (va_runS (As := [.int (nI (r % 256)), .int (nI (33)), .int (nI (126))]) (rest := []) ⟨hx, hb, hml, hown, hts⟩ (c_X9_in (nI (r % 256)) (nI (33)) (nI (126))) (va_cwS 3 hts gX9_appendText_X9_in rfl rfl rfl (by decide +kernel) ⟨Nat.le_of_ble_eq_true rfl, Nat.le_of_ble_eq_true rfl⟩) (preS hC hS hLo) rfl rfl hl.1 rfl (lv_room (Nat.le_of_ble_eq_true rfl)) dX9_appendText_31 ⟨Nat.zero_le _, Nat.zero_le _⟩) hS (fun locs hS => ?_)
          refine topE (v' := bI (33 ≤ r % 256 ∧ r % 256 ≤ 126)) (bI_c (by rw [nI_toInt (by omega), nI_toInt (by omega), nI_toInt (by omega)]; omega)) ?_
          refine lv_if_eq (tgt := 41) hx hb dX9_appendText_34 (by decide) (fun c_25 => ?_) (fun c_25 => ?_)
          · have f_26 : ¬ (33 ≤ r % 256 ∧ r % 256 ≤ 126) := bI_0.mp c_25
            refine lv_iconst (v := nI (0)) hx hb dX9_appendText_41 (by decide) ?_
            refine topE (v' := bI (gd ∧ (33 ≤ r % 256 ∧ r % 256 ≤ 126))) ((bI_f (fun z => f_26 z.2)).symm) ?_
            exact J_42 locs ls hS (lv_sub hl [0, 1, 2, 3, 4] (rfl))
          · have f_27 : (33 ≤ r % 256 ∧ r % 256 ≤ 126) := Classical.byContradiction (fun z => c_25 (bI_0.mpr z))
            refine lv_iconst (v := nI (1)) hx hb dX9_appendText_37 (by decide) ?_
            refine lv_goto (tgt := 42) hx hb dX9_appendText_38 (by decide) ?_
            refine topE (v' := bI (gd ∧ (33 ≤ r % 256 ∧ r % 256 ≤ 126))) ((bI_t ⟨f_24, f_27⟩).symm) ?_
            exact J_42 locs ls hS (lv_sub hl [0, 1, 2, 3, 4] (rfl))
  exact L_8 (_ + 1) 0 cu True (Nat.lt_succ_self _) (by omega) hu hu ⟨fun _ => rfl, fun z => absurd trivial z⟩ s.heap locs ls hP hD hS (lv_sub hl [3, 4, 2, 1, 0] (lvc rfl (lvc rfl (lvc rfl (lvc (congrArg Value.int ((bI_t trivial).symm)) (lvc rfl rfl))))))

set_option maxHeartbeats 4000000 in
set_option maxRecDepth 100000 in
theorem c_X9_appendText_1 {l : Launch} {G : GT} {H0 : Heap} (mh m1 m2 m3 m4 m5 : Nat) (ss hi sl : Nat → Int) (tx : Nat → Nat) (ne : Nat → Int) (th : Int32) (kn ke le : Nat) (sp wr si on tw dn : Int32) (cu : Nat) (hu : cu < 2 ^ 64) (hle : le ≤ 80) (hc0 : CS cu = 0) (hP0 : PP G ([(mh, .inr (8, [.int (th), .ref m1, .ref m2, .int (nI (kn)), .ref m3, .int (nI (ke)), .ref m4, .int (nI (le)), .ref m5, .int (sp), .int (wr), .int (si), .int (on), .int (tw), .int (dn)])), (m1, .inl (cI G, 205, .inl (fun z9 => iI (ss z9)))), (m2, .inl (cI G, 1230, .inl (fun z9 => iI (hi z9)))), (m3, .inl (cI G, 410, .inl (fun z9 => iI (sl z9)))), (m4, .inl (cI G, 80, .inl (fun z9 => nI (tx z9)))), (m5, .inl (cI G, 128, .inl (fun z9 => iI (ne z9))))]) H0) (hB0 : va_D (lo G) ([(mh, .inr (8, [.int (th), .ref m1, .ref m2, .int (nI (kn)), .ref m3, .int (nI (ke)), .ref m4, .int (nI (le)), .ref m5, .int (sp), .int (wr), .int (si), .int (on), .int (tw), .int (dn)])), (m1, .inl (cI G, 205, .inl (fun z9 => iI (ss z9)))), (m2, .inl (cI G, 1230, .inl (fun z9 => iI (hi z9)))), (m3, .inl (cI G, 410, .inl (fun z9 => iI (sl z9)))), (m4, .inl (cI G, 80, .inl (fun z9 => nI (tx z9)))), (m5, .inl (cI G, 128, .inl (fun z9 => iI (ne z9))))])) : Met l yX9_appendText wsX9_appendText ({ frames := 1, cells := 0, slots := 0, locals := 22 } : Room) (pcG G [.ref mh, .long (lN cu)] H0) (qMi G (fun (r : Int32) (u : Unit) => r = nI (0)) (fun (u : Unit) => [(mh, .inr (8, [.int (nI (1)), .ref m1, .ref m2, .int (nI (kn)), .ref m3, .int (nI (ke)), .ref m4, .int (nI (le)), .ref m5, .int (sp), .int (wr), .int (si), .int (on), .int (tw), .int (dn)])), (m1, .inl (cI G, 205, .inl (fun z9 => iI (ss z9)))), (m2, .inl (cI G, 1230, .inl (fun z9 => iI (hi z9)))), (m3, .inl (cI G, 410, .inl (fun z9 => iI (sl z9)))), (m4, .inl (cI G, 80, .inl (fun z9 => nI (tx z9)))), (m5, .inl (cI G, 128, .inl (fun z9 => iI (ne z9))))]) ([(mh, .inr (8, [.int (th), .ref m1, .ref m2, .int (nI (kn)), .ref m3, .int (nI (ke)), .ref m4, .int (nI (le)), .ref m5, .int (sp), .int (wr), .int (si), .int (on), .int (tw), .int (dn)])), (m1, .inl (cI G, 205, .inl (fun z9 => iI (ss z9)))), (m2, .inl (cI G, 1230, .inl (fun z9 => iI (hi z9)))), (m3, .inl (cI G, 410, .inl (fun z9 => iI (sl z9)))), (m4, .inl (cI G, 80, .inl (fun z9 => nI (tx z9)))), (m5, .inl (cI G, 128, .inl (fun z9 => iI (ne z9))))]) H0) 0 0 (va_A ([(mh, .inr (8, [.int (th), .ref m1, .ref m2, .int (nI (kn)), .ref m3, .int (nI (ke)), .ref m4, .int (nI (le)), .ref m5, .int (sp), .int (wr), .int (si), .int (on), .int (tw), .int (dn)])), (m1, .inl (cI G, 205, .inl (fun z9 => iI (ss z9)))), (m2, .inl (cI G, 1230, .inl (fun z9 => iI (hi z9)))), (m3, .inl (cI G, 410, .inl (fun z9 => iI (sl z9)))), (m4, .inl (cI G, 80, .inl (fun z9 => nI (tx z9)))), (m5, .inl (cI G, 128, .inl (fun z9 => iI (ne z9))))]) H0.size) := by
  refine enter (cc := cX9_appendText) (maxL := 7) (ret := some .int) (own := RX9) (lv := [(0, .ref mh), (1, .long (lN cu))]) (by decide) rfl rfl rfl (Nat.le_of_ble_eq_true rfl) ?_
  intro pg ev s m below meth c hx hb hr hts hown hlocks hml hnm hH hC ls hl
  subst hH
  have hLo := va_freeB hB0 hC.2.2.2.1
  have hD := hB0.self (sz := s.heap.size)
  have hS : va_S (va_A ([(mh, .inr (8, [.int (th), .ref m1, .ref m2, .int (nI (kn)), .ref m3, .int (nI (ke)), .ref m4, .int (nI (le)), .ref m5, .int (sp), .int (wr), .int (si), .int (on), .int (tw), .int (dn)])), (m1, .inl (cI G, 205, .inl (fun z9 => iI (ss z9)))), (m2, .inl (cI G, 1230, .inl (fun z9 => iI (hi z9)))), (m3, .inl (cI G, 410, .inl (fun z9 => iI (sl z9)))), (m4, .inl (cI G, 80, .inl (fun z9 => nI (tx z9)))), (m5, .inl (cI G, 128, .inl (fun z9 => iI (ne z9))))]) s.heap.size) s.heap s.heap [] := va_S.rf
  unfold qMi
  generalize hAe : va_A ([(mh, .inr (8, [.int (th), .ref m1, .ref m2, .int (nI (kn)), .ref m3, .int (nI (ke)), .ref m4, .int (nI (le)), .ref m5, .int (sp), .int (wr), .int (si), .int (on), .int (tw), .int (dn)])), (m1, .inl (cI G, 205, .inl (fun z9 => iI (ss z9)))), (m2, .inl (cI G, 1230, .inl (fun z9 => iI (hi z9)))), (m3, .inl (cI G, 410, .inl (fun z9 => iI (sl z9)))), (m4, .inl (cI G, 80, .inl (fun z9 => nI (tx z9)))), (m5, .inl (cI G, 128, .inl (fun z9 => iI (ne z9))))]) s.heap.size = A at hD hLo hS ⊢
  have hA : ∀ q, s.heap.size ≤ q → A q := fun q h => by rw [← hAe]; exact Or.inr h
  generalize ([] : List Loc) = locs at hS ⊢
  have hP := hP0
  refine lv_iconst (v := nI (0)) hx hb dX9_appendText_0 (by decide) ?_
  refine lv_istore_n (lv' := [(3, .int (nI (0))), (0, .ref mh), (1, .long (lN cu))]) hx hb dX9_appendText_1 rfl hl (by decide) rfl (fun ls hl => ?_)
  refine lv_iconst (v := nI (1)) hx hb dX9_appendText_2 (by decide) ?_
  refine lv_istore (lv' := [(4, .int (nI (1))), (3, .int (nI (0))), (0, .ref mh), (1, .long (lN cu))]) hx hb dX9_appendText_3 hl (by decide) rfl (fun ls hl => ?_)
  refine lv_lload_n hx hb dX9_appendText_5 rfl (lv_at hl 3 rfl) ?_
  refine lv_lstore (lv' := [(5, .long (lN cu)), (4, .int (nI (1))), (3, .int (nI (0))), (0, .ref mh), (1, .long (lN cu))]) hx hb dX9_appendText_6 hl (by decide) rfl (fun ls hl => ?_)
  have L_8 : ∀ (n_8 : Nat) (i r : Nat) (gd : Prop), r < n_8 → (i ≤ 8) → (r < 2 ^ 64) → (r < 256 ^ (8 - i)) → ((gd → CS cu = csF (8 - i) r i) ∧ (¬ gd → CS cu = 0)) → ∀ (H : Heap) (locs : List Loc) (ls : Array Slot), PP G ([(mh, .inr (8, [.int (th), .ref m1, .ref m2, .int (nI (kn)), .ref m3, .int (nI (ke)), .ref m4, .int (nI (le)), .ref m5, .int (sp), .int (wr), .int (si), .int (on), .int (tw), .int (dn)])), (m1, .inl (cI G, 205, .inl (fun z9 => iI (ss z9)))), (m2, .inl (cI G, 1230, .inl (fun z9 => iI (hi z9)))), (m3, .inl (cI G, 410, .inl (fun z9 => iI (sl z9)))), (m4, .inl (cI G, 80, .inl (fun z9 => nI (tx z9)))), (m5, .inl (cI G, 128, .inl (fun z9 => iI (ne z9))))]) H → va_D A ([(mh, .inr (8, [.int (th), .ref m1, .ref m2, .int (nI (kn)), .ref m3, .int (nI (ke)), .ref m4, .int (nI (le)), .ref m5, .int (sp), .int (wr), .int (si), .int (on), .int (tw), .int (dn)])), (m1, .inl (cI G, 205, .inl (fun z9 => iI (ss z9)))), (m2, .inl (cI G, 1230, .inl (fun z9 => iI (hi z9)))), (m3, .inl (cI G, 410, .inl (fun z9 => iI (sl z9)))), (m4, .inl (cI G, 80, .inl (fun z9 => nI (tx z9)))), (m5, .inl (cI G, 128, .inl (fun z9 => iI (ne z9))))]) → va_S A s.heap H locs → lv_has ls 7 [(0, .ref mh), (1, .long (lN cu)), (3, .int (nI (i))), (4, .int (bI (gd))), (5, .long (lN r))] → W pg l ev ({ frames := 1, cells := 0, slots := 0, locals := 22 } : Room) s m (([.ref mh, .long (lN cu)] : List Value).toArray) below meth c H locs 0 0 (MQ below (va_Qi (fun (r : Int32) (u : Unit) => r = nI (0)) (fun (u : Unit) t9 => PP G ([(mh, .inr (8, [.int (nI (1)), .ref m1, .ref m2, .int (nI (kn)), .ref m3, .int (nI (ke)), .ref m4, .int (nI (le)), .ref m5, .int (sp), .int (wr), .int (si), .int (on), .int (tw), .int (dn)])), (m1, .inl (cI G, 205, .inl (fun z9 => iI (ss z9)))), (m2, .inl (cI G, 1230, .inl (fun z9 => iI (hi z9)))), (m3, .inl (cI G, 410, .inl (fun z9 => iI (sl z9)))), (m4, .inl (cI G, 80, .inl (fun z9 => nI (tx z9)))), (m5, .inl (cI G, 128, .inl (fun z9 => iI (ne z9))))]) t9.heap) A) (([.ref mh, .long (lN cu)] : List Value).toArray) s 0 0 A) (F0 m 8 ls []) := by
    intro n_8
    induction n_8 with
    | zero => intro i r gd hn; exact absurd hn (Nat.not_lt_zero _)
    | succ n_8 ih_8 =>
      intro i r gd hn_8 hi9 hr9 hri hcs H locs ls hP hD hS hl
      refine lv_lload hx hb dX9_appendText_8 (lv_at hl 4 rfl) ?_
      refine lv_lconst (v := 0) hx hb dX9_appendText_10 (by decide) ?_
      refine W.lcmp hx hb dX9_appendText_11 ?_
      refine topE (v' := iI (lc0 r)) (lg_l0 (by assumption)) ?_
      have hz4 := lc0_in r
      refine lv_if_eq (tgt := 57) hx hb dX9_appendText_12 (by decide) (fun c_1 => ?_) (fun c_1 => ?_)
      · have f_2 : (lc0 r) = (0 : Int) := (c_eq (iI_toInt (by omega) (by omega)) rfl).mp c_1
        have hxe := ap_e (lc0_z.mp f_2) hcs
        refine lv_aload_n hx hb dX9_appendText_57 rfl (lv_at hl 0 rfl) ?_
        refine lv_iload_n hx hb dX9_appendText_58 rfl (lv_at hl 2 rfl) ?_
        refine lv_if_eq (tgt := 67) hx hb dX9_appendText_59 (by decide) (fun c_3 => ?_) (fun c_3 => ?_)
        · have f_4 : ((i : Nat) : Int) = (0 : Int) := (c_eq (nI_toInt (n := i) (by omega)) rfl).mp c_3
          refine lv_iconst (v := nI (1)) hx hb dX9_appendText_67 (by decide) ?_
          refine lv_goto (tgt := 87) hx hb dX9_appendText_68 (by decide) ?_
          refine kMi (va_runV (As := [.int (nI (1))]) (rest := []) ⟨hx, hb, hml, hown, hts⟩ (c_X9_holds mh m1 m2 m3 m4 m5 ss hi sl tx ne th kn ke le sp wr si on tw dn 1 (by first | assumption | omega) (hP.sub [0, 1, 2, 3, 4, 5] rfl) ((hD.sub [0, 1, 2, 3, 4, 5] (by decide) rfl).weaken (fun _ _ _ h => hLo _ h))) (cwV 1 hts gX9_appendText_X9_holds rfl rfl rfl (by decide +kernel) ⟨Nat.le_of_ble_eq_true rfl, Nat.le_of_ble_eq_true rfl⟩) (preV hC hS hLo hP (ci := 8) (q0 := 0) rfl rfl) rfl rfl hl.1 rfl (lv_room (Nat.le_of_ble_eq_true rfl)) dX9_appendText_87 ⟨Nat.zero_le _, Nat.zero_le _⟩) hP hD hS hA [0, 1, 2, 3, 4, 5] (by decide) rfl (fun _ => rfl) (fun r_7 u_5 H locs q_6 hP hD hS => ?_)
          have hP : PP G ([(mh, .inr (8, [.int (nI (1)), .ref m1, .ref m2, .int (nI (kn)), .ref m3, .int (nI (ke)), .ref m4, .int (nI (le)), .ref m5, .int (sp), .int (wr), .int (si), .int (on), .int (tw), .int (dn)])), (m1, .inl (cI G, 205, .inl (fun z9 => iI (ss z9)))), (m2, .inl (cI G, 1230, .inl (fun z9 => iI (hi z9)))), (m3, .inl (cI G, 410, .inl (fun z9 => iI (sl z9)))), (m4, .inl (cI G, 80, .inl (fun z9 => nI (tx z9)))), (m5, .inl (cI G, 128, .inl (fun z9 => iI (ne z9))))]) H := hP
          have hD : va_D A ([(mh, .inr (8, [.int (nI (1)), .ref m1, .ref m2, .int (nI (kn)), .ref m3, .int (nI (ke)), .ref m4, .int (nI (le)), .ref m5, .int (sp), .int (wr), .int (si), .int (on), .int (tw), .int (dn)])), (m1, .inl (cI G, 205, .inl (fun z9 => iI (ss z9)))), (m2, .inl (cI G, 1230, .inl (fun z9 => iI (hi z9)))), (m3, .inl (cI G, 410, .inl (fun z9 => iI (sl z9)))), (m4, .inl (cI G, 80, .inl (fun z9 => nI (tx z9)))), (m5, .inl (cI G, 128, .inl (fun z9 => iI (ne z9))))]) := hD
          refine topE (v' := nI (0)) (q_6.trans (bI_f (by omega))) ?_
          refine lv_if_ne (tgt := 95) hx hb dX9_appendText_90 (by decide) (fun c_8 => ?_) (fun c_8 => ?_)
          · have f_9 : ¬ (0 : Int) = (0 : Int) := fun z => c_8 ((c_eq (nI_toInt (n := 0) (by omega)) rfl).mpr z)
            exfalso; omega
          · have f_10 : (0 : Int) = (0 : Int) := (c_eq (nI_toInt (n := 0) (by omega)) rfl).mp c_8
            refine lv_iconst (v := nI (0)) hx hb dX9_appendText_93 (by decide) ?_
            exact xMi (G := G) (post := (fun (r : Int32) (u : Unit) => r = nI (0))) (w1 := (fun (u : Unit) => [(mh, .inr (8, [.int (nI (1)), .ref m1, .ref m2, .int (nI (kn)), .ref m3, .int (nI (ke)), .ref m4, .int (nI (le)), .ref m5, .int (sp), .int (wr), .int (si), .int (on), .int (tw), .int (dn)])), (m1, .inl (cI G, 205, .inl (fun z9 => iI (ss z9)))), (m2, .inl (cI G, 1230, .inl (fun z9 => iI (hi z9)))), (m3, .inl (cI G, 410, .inl (fun z9 => iI (sl z9)))), (m4, .inl (cI G, 80, .inl (fun z9 => nI (tx z9)))), (m5, .inl (cI G, 128, .inl (fun z9 => iI (ne z9))))])) (()) hx hb hr hlocks hP hS (by exact rfl) (by exact rfl) dX9_appendText_94
        · have f_11 : ¬ ((i : Nat) : Int) = (0 : Int) := fun z => c_3 ((c_eq (nI_toInt (n := i) (by omega)) rfl).mpr z)
          refine lv_iload hx hb dX9_appendText_62 (lv_at hl 3 rfl) ?_
          refine lv_if_ne (tgt := 71) hx hb dX9_appendText_64 (by decide) (fun c_12 => ?_) (fun c_12 => ?_)
          · have f_13 : (gd) := Classical.byContradiction (fun z => c_12 (bI_0.mpr z))
            exact absurd ((hxe.1 f_13).symm.trans hc0) (by omega)
          · have f_14 : ¬ (gd) := bI_0.mp c_12
            refine lv_iconst (v := nI (1)) hx hb dX9_appendText_67 (by decide) ?_
            refine lv_goto (tgt := 87) hx hb dX9_appendText_68 (by decide) ?_
            refine kMi (va_runV (As := [.int (nI (1))]) (rest := []) ⟨hx, hb, hml, hown, hts⟩ (c_X9_holds mh m1 m2 m3 m4 m5 ss hi sl tx ne th kn ke le sp wr si on tw dn 1 (by first | assumption | omega) (hP.sub [0, 1, 2, 3, 4, 5] rfl) ((hD.sub [0, 1, 2, 3, 4, 5] (by decide) rfl).weaken (fun _ _ _ h => hLo _ h))) (cwV 1 hts gX9_appendText_X9_holds rfl rfl rfl (by decide +kernel) ⟨Nat.le_of_ble_eq_true rfl, Nat.le_of_ble_eq_true rfl⟩) (preV hC hS hLo hP (ci := 8) (q0 := 0) rfl rfl) rfl rfl hl.1 rfl (lv_room (Nat.le_of_ble_eq_true rfl)) dX9_appendText_87 ⟨Nat.zero_le _, Nat.zero_le _⟩) hP hD hS hA [0, 1, 2, 3, 4, 5] (by decide) rfl (fun _ => rfl) (fun r_17 u_15 H locs q_16 hP hD hS => ?_)
            have hP : PP G ([(mh, .inr (8, [.int (nI (1)), .ref m1, .ref m2, .int (nI (kn)), .ref m3, .int (nI (ke)), .ref m4, .int (nI (le)), .ref m5, .int (sp), .int (wr), .int (si), .int (on), .int (tw), .int (dn)])), (m1, .inl (cI G, 205, .inl (fun z9 => iI (ss z9)))), (m2, .inl (cI G, 1230, .inl (fun z9 => iI (hi z9)))), (m3, .inl (cI G, 410, .inl (fun z9 => iI (sl z9)))), (m4, .inl (cI G, 80, .inl (fun z9 => nI (tx z9)))), (m5, .inl (cI G, 128, .inl (fun z9 => iI (ne z9))))]) H := hP
            have hD : va_D A ([(mh, .inr (8, [.int (nI (1)), .ref m1, .ref m2, .int (nI (kn)), .ref m3, .int (nI (ke)), .ref m4, .int (nI (le)), .ref m5, .int (sp), .int (wr), .int (si), .int (on), .int (tw), .int (dn)])), (m1, .inl (cI G, 205, .inl (fun z9 => iI (ss z9)))), (m2, .inl (cI G, 1230, .inl (fun z9 => iI (hi z9)))), (m3, .inl (cI G, 410, .inl (fun z9 => iI (sl z9)))), (m4, .inl (cI G, 80, .inl (fun z9 => nI (tx z9)))), (m5, .inl (cI G, 128, .inl (fun z9 => iI (ne z9))))]) := hD
            refine topE (v' := nI (0)) (q_16.trans (bI_f (by omega))) ?_
            refine lv_if_ne (tgt := 95) hx hb dX9_appendText_90 (by decide) (fun c_18 => ?_) (fun c_18 => ?_)
            · have f_19 : ¬ (0 : Int) = (0 : Int) := fun z => c_18 ((c_eq (nI_toInt (n := 0) (by omega)) rfl).mpr z)
              exfalso; omega
            · have f_20 : (0 : Int) = (0 : Int) := (c_eq (nI_toInt (n := 0) (by omega)) rfl).mp c_18
              refine lv_iconst (v := nI (0)) hx hb dX9_appendText_93 (by decide) ?_
              exact xMi (G := G) (post := (fun (r : Int32) (u : Unit) => r = nI (0))) (w1 := (fun (u : Unit) => [(mh, .inr (8, [.int (nI (1)), .ref m1, .ref m2, .int (nI (kn)), .ref m3, .int (nI (ke)), .ref m4, .int (nI (le)), .ref m5, .int (sp), .int (wr), .int (si), .int (on), .int (tw), .int (dn)])), (m1, .inl (cI G, 205, .inl (fun z9 => iI (ss z9)))), (m2, .inl (cI G, 1230, .inl (fun z9 => iI (hi z9)))), (m3, .inl (cI G, 410, .inl (fun z9 => iI (sl z9)))), (m4, .inl (cI G, 80, .inl (fun z9 => nI (tx z9)))), (m5, .inl (cI G, 128, .inl (fun z9 => iI (ne z9))))])) (()) hx hb hr hlocks hP hS (by exact rfl) (by exact rfl) dX9_appendText_94
      · have f_21 : ¬ (lc0 r) = (0 : Int) := fun z => c_1 ((c_eq (iI_toInt (by omega) (by omega)) rfl).mpr z)
        have hr0 : ¬ r = 0 := fun z9 => f_21 (lc0_z.mpr z9)
        have hi8 := dv_8 hi9 hri hr0
        have J_42 : ∀ (locs : List Loc) (ls : Array Slot), va_S A s.heap H locs → lv_has ls 7 [(0, .ref mh), (1, .long (lN cu)), (3, .int (nI (i))), (4, .int (bI (gd))), (5, .long (lN r))] → W pg l ev ({ frames := 1, cells := 0, slots := 0, locals := 22 } : Room) s m (([.ref mh, .long (lN cu)] : List Value).toArray) below meth c H locs 0 0 (MQ below (va_Qi (fun (r : Int32) (u : Unit) => r = nI (0)) (fun (u : Unit) t9 => PP G ([(mh, .inr (8, [.int (nI (1)), .ref m1, .ref m2, .int (nI (kn)), .ref m3, .int (nI (ke)), .ref m4, .int (nI (le)), .ref m5, .int (sp), .int (wr), .int (si), .int (on), .int (tw), .int (dn)])), (m1, .inl (cI G, 205, .inl (fun z9 => iI (ss z9)))), (m2, .inl (cI G, 1230, .inl (fun z9 => iI (hi z9)))), (m3, .inl (cI G, 410, .inl (fun z9 => iI (sl z9)))), (m4, .inl (cI G, 80, .inl (fun z9 => nI (tx z9)))), (m5, .inl (cI G, 128, .inl (fun z9 => iI (ne z9))))]) t9.heap) A) (([.ref mh, .long (lN cu)] : List Value).toArray) s 0 0 A) (F0 m 42 ls [.int (bI (gd ∧ (33 ≤ r % 256 ∧ r % 256 ≤ 126)))]) := by
          intro locs ls hS hl
          refine lv_istore (lv' := [(4, .int (bI (gd ∧ (33 ≤ r % 256 ∧ r % 256 ≤ 126)))), (0, .ref mh), (1, .long (lN cu)), (3, .int (nI (i))), (5, .long (lN r))]) hx hb dX9_appendText_42 hl (by decide) rfl (fun ls hl => ?_)
          refine lv_iinc (v := nI (i + 1)) (lv' := [(3, .int (nI (i + 1))), (4, .int (bI (gd ∧ (33 ≤ r % 256 ∧ r % 256 ≤ 126)))), (0, .ref mh), (1, .long (lN cu)), (5, .long (lN r))]) hx hb dX9_appendText_44 hl (k := 3) rfl (inc_p i 1) (by decide) rfl (fun ls hl => ?_)
          refine lv_lload hx hb dX9_appendText_47 (lv_at hl 4 rfl) ?_
          refine lv_bipush (v := nI (8)) hx hb dX9_appendText_49 (by decide) ?_
          refine lv_lushr (v := lN (r / 256)) hx hb dX9_appendText_51 (wb_shr (k := 8) (by assumption) (by omega)) ?_
          refine lv_lstore (lv' := [(5, .long (lN (r / 256))), (3, .int (nI (i + 1))), (4, .int (bI (gd ∧ (33 ≤ r % 256 ∧ r % 256 ≤ 126)))), (0, .ref mh), (1, .long (lN cu))]) hx hb dX9_appendText_52 hl (by decide) rfl (fun ls hl => ?_)
          refine lv_goto (tgt := 8) hx hb dX9_appendText_54 (by decide) ?_
          exact ih_8 (i + 1) (r / 256) (gd ∧ (33 ≤ r % 256 ∧ r % 256 ≤ 126)) (by omega) (by omega) (by omega) (dv_256 hi8 hri) (ap_s hi8 hr0 hcs) H locs ls hP hD hS (lv_sub hl [3, 4, 1, 2, 0] ((lvc rfl (lvc rfl (lvc (congrArg Value.int (rfl)) (lvc (congrArg Value.int (rfl)) (lvc rfl rfl)))))))
        refine lv_iload hx hb dX9_appendText_15 (lv_at hl 3 rfl) ?_
        refine lv_if_eq (tgt := 41) hx hb dX9_appendText_17 (by decide) (fun c_22 => ?_) (fun c_22 => ?_)
        · have f_23 : ¬ (gd) := bI_0.mp c_22
          refine lv_iconst (v := nI (0)) hx hb dX9_appendText_41 (by decide) ?_
          refine topE (v' := bI (gd ∧ (33 ≤ r % 256 ∧ r % 256 ≤ 126))) ((bI_f (fun z => f_23 z.1)).symm) ?_
          exact J_42 locs ls hS (lv_sub hl [0, 1, 2, 3, 4] (rfl))
        · have f_24 : (gd) := Classical.byContradiction (fun z => c_22 (bI_0.mpr z))
          refine lv_lload hx hb dX9_appendText_20 (lv_at hl 4 rfl) ?_
          refine lv_ldc2 (v := 255) hx hb hown (hts (.constantLong RX9 122 (255)) (by decide +kernel)) dX9_appendText_22 ?_
          refine g_land (z := lN (r % 256)) hx hb dX9_appendText_25 (la255 (by assumption)) ?_
          refine lv_l2i (v := nI (r % 256)) hx hb dX9_appendText_26 (l2i_N (by omega)) ?_
          refine lv_bipush (v := nI (33)) hx hb dX9_appendText_27 (by decide) ?_
          refine lv_bipush (v := nI (126)) hx hb dX9_appendText_29 (by decide) ?_
          refine kPi (va_runS (As := [.int (nI (r % 256)), .int (nI (33)), .int (nI (126))]) (rest := []) ⟨hx, hb, hml, hown, hts⟩ (c_X9_in (nI (r % 256)) (nI (33)) (nI (126))) (va_cwS 3 hts gX9_appendText_X9_in rfl rfl rfl (by decide +kernel) ⟨Nat.le_of_ble_eq_true rfl, Nat.le_of_ble_eq_true rfl⟩) (preS hC hS hLo) rfl rfl hl.1 rfl (lv_room (Nat.le_of_ble_eq_true rfl)) dX9_appendText_31 ⟨Nat.zero_le _, Nat.zero_le _⟩) hS (fun locs hS => ?_)
          refine topE (v' := bI (33 ≤ r % 256 ∧ r % 256 ≤ 126)) (bI_c (by rw [nI_toInt (by omega), nI_toInt (by omega), nI_toInt (by omega)]; omega)) ?_
          refine lv_if_eq (tgt := 41) hx hb dX9_appendText_34 (by decide) (fun c_25 => ?_) (fun c_25 => ?_)
          · have f_26 : ¬ (33 ≤ r % 256 ∧ r % 256 ≤ 126) := bI_0.mp c_25
            refine lv_iconst (v := nI (0)) hx hb dX9_appendText_41 (by decide) ?_
            refine topE (v' := bI (gd ∧ (33 ≤ r % 256 ∧ r % 256 ≤ 126))) ((bI_f (fun z => f_26 z.2)).symm) ?_
            exact J_42 locs ls hS (lv_sub hl [0, 1, 2, 3, 4] (rfl))
          · have f_27 : (33 ≤ r % 256 ∧ r % 256 ≤ 126) := Classical.byContradiction (fun z => c_25 (bI_0.mpr z))
            refine lv_iconst (v := nI (1)) hx hb dX9_appendText_37 (by decide) ?_
            refine lv_goto (tgt := 42) hx hb dX9_appendText_38 (by decide) ?_
            refine topE (v' := bI (gd ∧ (33 ≤ r % 256 ∧ r % 256 ≤ 126))) ((bI_t ⟨f_24, f_27⟩).symm) ?_
            exact J_42 locs ls hS (lv_sub hl [0, 1, 2, 3, 4] (rfl))
  exact L_8 (_ + 1) 0 cu True (Nat.lt_succ_self _) (by omega) hu hu ⟨fun _ => rfl, fun z => absurd trivial z⟩ s.heap locs ls hP hD hS (lv_sub hl [3, 4, 2, 1, 0] (lvc rfl (lvc rfl (lvc rfl (lvc (congrArg Value.int ((bI_t trivial).symm)) (lvc rfl rfl))))))

set_option maxHeartbeats 4000000 in
set_option maxRecDepth 100000 in
theorem c_X9_appendText_2 {l : Launch} {G : GT} {H0 : Heap} (mh m1 m2 m3 m4 m5 : Nat) (ss hi sl : Nat → Int) (tx : Nat → Nat) (ne : Nat → Int) (th : Int32) (kn ke le : Nat) (sp wr si on tw dn : Int32) (cu : Nat) (hu : cu < 2 ^ 64) (hle : le ≤ 80) (hc0 : ¬ CS cu = 0) (hlk : 80 < le + CS cu) (hP0 : PP G ([(mh, .inr (8, [.int (th), .ref m1, .ref m2, .int (nI (kn)), .ref m3, .int (nI (ke)), .ref m4, .int (nI (le)), .ref m5, .int (sp), .int (wr), .int (si), .int (on), .int (tw), .int (dn)])), (m1, .inl (cI G, 205, .inl (fun z9 => iI (ss z9)))), (m2, .inl (cI G, 1230, .inl (fun z9 => iI (hi z9)))), (m3, .inl (cI G, 410, .inl (fun z9 => iI (sl z9)))), (m4, .inl (cI G, 80, .inl (fun z9 => nI (tx z9)))), (m5, .inl (cI G, 128, .inl (fun z9 => iI (ne z9))))]) H0) (hB0 : va_D (lo G) ([(mh, .inr (8, [.int (th), .ref m1, .ref m2, .int (nI (kn)), .ref m3, .int (nI (ke)), .ref m4, .int (nI (le)), .ref m5, .int (sp), .int (wr), .int (si), .int (on), .int (tw), .int (dn)])), (m1, .inl (cI G, 205, .inl (fun z9 => iI (ss z9)))), (m2, .inl (cI G, 1230, .inl (fun z9 => iI (hi z9)))), (m3, .inl (cI G, 410, .inl (fun z9 => iI (sl z9)))), (m4, .inl (cI G, 80, .inl (fun z9 => nI (tx z9)))), (m5, .inl (cI G, 128, .inl (fun z9 => iI (ne z9))))])) : Met l yX9_appendText wsX9_appendText ({ frames := 1, cells := 0, slots := 0, locals := 22 } : Room) (pcG G [.ref mh, .long (lN cu)] H0) (qMi G (fun (r : Int32) (u : Unit) => r = nI (0)) (fun (u : Unit) => [(mh, .inr (8, [.int (nI (2)), .ref m1, .ref m2, .int (nI (kn)), .ref m3, .int (nI (ke)), .ref m4, .int (nI (le)), .ref m5, .int (sp), .int (wr), .int (si), .int (on), .int (tw), .int (dn)])), (m1, .inl (cI G, 205, .inl (fun z9 => iI (ss z9)))), (m2, .inl (cI G, 1230, .inl (fun z9 => iI (hi z9)))), (m3, .inl (cI G, 410, .inl (fun z9 => iI (sl z9)))), (m4, .inl (cI G, 80, .inl (fun z9 => nI (tx z9)))), (m5, .inl (cI G, 128, .inl (fun z9 => iI (ne z9))))]) ([(mh, .inr (8, [.int (th), .ref m1, .ref m2, .int (nI (kn)), .ref m3, .int (nI (ke)), .ref m4, .int (nI (le)), .ref m5, .int (sp), .int (wr), .int (si), .int (on), .int (tw), .int (dn)])), (m1, .inl (cI G, 205, .inl (fun z9 => iI (ss z9)))), (m2, .inl (cI G, 1230, .inl (fun z9 => iI (hi z9)))), (m3, .inl (cI G, 410, .inl (fun z9 => iI (sl z9)))), (m4, .inl (cI G, 80, .inl (fun z9 => nI (tx z9)))), (m5, .inl (cI G, 128, .inl (fun z9 => iI (ne z9))))]) H0) 0 0 (va_A ([(mh, .inr (8, [.int (th), .ref m1, .ref m2, .int (nI (kn)), .ref m3, .int (nI (ke)), .ref m4, .int (nI (le)), .ref m5, .int (sp), .int (wr), .int (si), .int (on), .int (tw), .int (dn)])), (m1, .inl (cI G, 205, .inl (fun z9 => iI (ss z9)))), (m2, .inl (cI G, 1230, .inl (fun z9 => iI (hi z9)))), (m3, .inl (cI G, 410, .inl (fun z9 => iI (sl z9)))), (m4, .inl (cI G, 80, .inl (fun z9 => nI (tx z9)))), (m5, .inl (cI G, 128, .inl (fun z9 => iI (ne z9))))]) H0.size) := by
  refine enter (cc := cX9_appendText) (maxL := 7) (ret := some .int) (own := RX9) (lv := [(0, .ref mh), (1, .long (lN cu))]) (by decide) rfl rfl rfl (Nat.le_of_ble_eq_true rfl) ?_
  intro pg ev s m below meth c hx hb hr hts hown hlocks hml hnm hH hC ls hl
  subst hH
  have hLo := va_freeB hB0 hC.2.2.2.1
  have hD := hB0.self (sz := s.heap.size)
  have hS : va_S (va_A ([(mh, .inr (8, [.int (th), .ref m1, .ref m2, .int (nI (kn)), .ref m3, .int (nI (ke)), .ref m4, .int (nI (le)), .ref m5, .int (sp), .int (wr), .int (si), .int (on), .int (tw), .int (dn)])), (m1, .inl (cI G, 205, .inl (fun z9 => iI (ss z9)))), (m2, .inl (cI G, 1230, .inl (fun z9 => iI (hi z9)))), (m3, .inl (cI G, 410, .inl (fun z9 => iI (sl z9)))), (m4, .inl (cI G, 80, .inl (fun z9 => nI (tx z9)))), (m5, .inl (cI G, 128, .inl (fun z9 => iI (ne z9))))]) s.heap.size) s.heap s.heap [] := va_S.rf
  unfold qMi
  generalize hAe : va_A ([(mh, .inr (8, [.int (th), .ref m1, .ref m2, .int (nI (kn)), .ref m3, .int (nI (ke)), .ref m4, .int (nI (le)), .ref m5, .int (sp), .int (wr), .int (si), .int (on), .int (tw), .int (dn)])), (m1, .inl (cI G, 205, .inl (fun z9 => iI (ss z9)))), (m2, .inl (cI G, 1230, .inl (fun z9 => iI (hi z9)))), (m3, .inl (cI G, 410, .inl (fun z9 => iI (sl z9)))), (m4, .inl (cI G, 80, .inl (fun z9 => nI (tx z9)))), (m5, .inl (cI G, 128, .inl (fun z9 => iI (ne z9))))]) s.heap.size = A at hD hLo hS ⊢
  have hA : ∀ q, s.heap.size ≤ q → A q := fun q h => by rw [← hAe]; exact Or.inr h
  generalize ([] : List Loc) = locs at hS ⊢
  have hP := hP0
  refine lv_iconst (v := nI (0)) hx hb dX9_appendText_0 (by decide) ?_
  refine lv_istore_n (lv' := [(3, .int (nI (0))), (0, .ref mh), (1, .long (lN cu))]) hx hb dX9_appendText_1 rfl hl (by decide) rfl (fun ls hl => ?_)
  refine lv_iconst (v := nI (1)) hx hb dX9_appendText_2 (by decide) ?_
  refine lv_istore (lv' := [(4, .int (nI (1))), (3, .int (nI (0))), (0, .ref mh), (1, .long (lN cu))]) hx hb dX9_appendText_3 hl (by decide) rfl (fun ls hl => ?_)
  refine lv_lload_n hx hb dX9_appendText_5 rfl (lv_at hl 3 rfl) ?_
  refine lv_lstore (lv' := [(5, .long (lN cu)), (4, .int (nI (1))), (3, .int (nI (0))), (0, .ref mh), (1, .long (lN cu))]) hx hb dX9_appendText_6 hl (by decide) rfl (fun ls hl => ?_)
  have L_8 : ∀ (n_8 : Nat) (i r : Nat) (gd : Prop), r < n_8 → (i ≤ 8) → (r < 2 ^ 64) → (r < 256 ^ (8 - i)) → ((gd → CS cu = csF (8 - i) r i) ∧ (¬ gd → CS cu = 0)) → ∀ (H : Heap) (locs : List Loc) (ls : Array Slot), PP G ([(mh, .inr (8, [.int (th), .ref m1, .ref m2, .int (nI (kn)), .ref m3, .int (nI (ke)), .ref m4, .int (nI (le)), .ref m5, .int (sp), .int (wr), .int (si), .int (on), .int (tw), .int (dn)])), (m1, .inl (cI G, 205, .inl (fun z9 => iI (ss z9)))), (m2, .inl (cI G, 1230, .inl (fun z9 => iI (hi z9)))), (m3, .inl (cI G, 410, .inl (fun z9 => iI (sl z9)))), (m4, .inl (cI G, 80, .inl (fun z9 => nI (tx z9)))), (m5, .inl (cI G, 128, .inl (fun z9 => iI (ne z9))))]) H → va_D A ([(mh, .inr (8, [.int (th), .ref m1, .ref m2, .int (nI (kn)), .ref m3, .int (nI (ke)), .ref m4, .int (nI (le)), .ref m5, .int (sp), .int (wr), .int (si), .int (on), .int (tw), .int (dn)])), (m1, .inl (cI G, 205, .inl (fun z9 => iI (ss z9)))), (m2, .inl (cI G, 1230, .inl (fun z9 => iI (hi z9)))), (m3, .inl (cI G, 410, .inl (fun z9 => iI (sl z9)))), (m4, .inl (cI G, 80, .inl (fun z9 => nI (tx z9)))), (m5, .inl (cI G, 128, .inl (fun z9 => iI (ne z9))))]) → va_S A s.heap H locs → lv_has ls 7 [(0, .ref mh), (1, .long (lN cu)), (3, .int (nI (i))), (4, .int (bI (gd))), (5, .long (lN r))] → W pg l ev ({ frames := 1, cells := 0, slots := 0, locals := 22 } : Room) s m (([.ref mh, .long (lN cu)] : List Value).toArray) below meth c H locs 0 0 (MQ below (va_Qi (fun (r : Int32) (u : Unit) => r = nI (0)) (fun (u : Unit) t9 => PP G ([(mh, .inr (8, [.int (nI (2)), .ref m1, .ref m2, .int (nI (kn)), .ref m3, .int (nI (ke)), .ref m4, .int (nI (le)), .ref m5, .int (sp), .int (wr), .int (si), .int (on), .int (tw), .int (dn)])), (m1, .inl (cI G, 205, .inl (fun z9 => iI (ss z9)))), (m2, .inl (cI G, 1230, .inl (fun z9 => iI (hi z9)))), (m3, .inl (cI G, 410, .inl (fun z9 => iI (sl z9)))), (m4, .inl (cI G, 80, .inl (fun z9 => nI (tx z9)))), (m5, .inl (cI G, 128, .inl (fun z9 => iI (ne z9))))]) t9.heap) A) (([.ref mh, .long (lN cu)] : List Value).toArray) s 0 0 A) (F0 m 8 ls []) := by
    intro n_8
    induction n_8 with
    | zero => intro i r gd hn; exact absurd hn (Nat.not_lt_zero _)
    | succ n_8 ih_8 =>
      intro i r gd hn_8 hi9 hr9 hri hcs H locs ls hP hD hS hl
      refine lv_lload hx hb dX9_appendText_8 (lv_at hl 4 rfl) ?_
      refine lv_lconst (v := 0) hx hb dX9_appendText_10 (by decide) ?_
      refine W.lcmp hx hb dX9_appendText_11 ?_
      refine topE (v' := iI (lc0 r)) (lg_l0 (by assumption)) ?_
      have hz4 := lc0_in r
      refine lv_if_eq (tgt := 57) hx hb dX9_appendText_12 (by decide) (fun c_1 => ?_) (fun c_1 => ?_)
      · have f_2 : (lc0 r) = (0 : Int) := (c_eq (iI_toInt (by omega) (by omega)) rfl).mp c_1
        have hxe := ap_e (lc0_z.mp f_2) hcs
        refine lv_aload_n hx hb dX9_appendText_57 rfl (lv_at hl 0 rfl) ?_
        refine lv_iload_n hx hb dX9_appendText_58 rfl (lv_at hl 2 rfl) ?_
        refine lv_if_eq (tgt := 67) hx hb dX9_appendText_59 (by decide) (fun c_3 => ?_) (fun c_3 => ?_)
        · have f_4 : ((i : Nat) : Int) = (0 : Int) := (c_eq (nI_toInt (n := i) (by omega)) rfl).mp c_3
          exact absurd (Classical.byCases (fun g9 : gd => (hxe.1 g9).trans (by omega)) (fun g9 => hxe.2 g9)) hc0
        · have f_5 : ¬ ((i : Nat) : Int) = (0 : Int) := fun z => c_3 ((c_eq (nI_toInt (n := i) (by omega)) rfl).mpr z)
          refine lv_iload hx hb dX9_appendText_62 (lv_at hl 3 rfl) ?_
          refine lv_if_ne (tgt := 71) hx hb dX9_appendText_64 (by decide) (fun c_6 => ?_) (fun c_6 => ?_)
          · have f_7 : (gd) := Classical.byContradiction (fun z => c_6 (bI_0.mpr z))
            have hci := CS_le cu
            have e_i : i = CS cu := (hxe.1 (by assumption)).symm
            replace e_i := e_i.symm
            subst e_i
            refine lv_aload_n hx hb dX9_appendText_71 rfl (lv_at hl 0 rfl) ?_
            refine va_get (D := gD G) (cl := vwCl) (tys := tyl G) (ci := 8) (v := .int (nI (le))) (C := RX9) (T := TX9) (N := 15) hx hb hts (by decide +kernel) hown hC.K hP 0 rfl rfl 7 (by decide) (hts (.fieldLink RX9 124 "MotionPostModel" "length" "I") (by decide +kernel)) (fun _ h9 => h9) rfl dX9_appendText_72 ?_
            refine lv_iload_n hx hb dX9_appendText_75 rfl (lv_at hl 2 rfl) ?_
            refine gAdd (z := nI (le + (CS cu))) hx hb dX9_appendText_76 (nI_add _ _) ?_
            refine lv_bipush (v := nI (80)) hx hb dX9_appendText_77 (by decide) ?_
            refine lv_icmp_le (tgt := 86) hx hb dX9_appendText_79 (by decide) (fun c_8 => ?_) (fun c_8 => ?_)
            · have f_9 : ((le + (CS cu) : Nat) : Int) ≤ (80 : Int) := (c_le (nI_toInt (n := le + (CS cu)) (by omega)) (nI_toInt (n := 80) (by omega))).mp c_8
              exfalso; omega
            · have f_10 : ¬ ((le + (CS cu) : Nat) : Int) ≤ (80 : Int) := fun z => c_8 ((c_le (nI_toInt (n := le + (CS cu)) (by omega)) (nI_toInt (n := 80) (by omega))).mpr z)
              refine lv_iconst (v := nI (2)) hx hb dX9_appendText_82 (by decide) ?_
              refine lv_goto (tgt := 87) hx hb dX9_appendText_83 (by decide) ?_
              refine kMi (va_runV (As := [.int (nI (2))]) (rest := []) ⟨hx, hb, hml, hown, hts⟩ (c_X9_holds mh m1 m2 m3 m4 m5 ss hi sl tx ne th kn ke le sp wr si on tw dn 2 (by first | assumption | omega) (hP.sub [0, 1, 2, 3, 4, 5] rfl) ((hD.sub [0, 1, 2, 3, 4, 5] (by decide) rfl).weaken (fun _ _ _ h => hLo _ h))) (cwV 1 hts gX9_appendText_X9_holds rfl rfl rfl (by decide +kernel) ⟨Nat.le_of_ble_eq_true rfl, Nat.le_of_ble_eq_true rfl⟩) (preV hC hS hLo hP (ci := 8) (q0 := 0) rfl rfl) rfl rfl hl.1 rfl (lv_room (Nat.le_of_ble_eq_true rfl)) dX9_appendText_87 ⟨Nat.zero_le _, Nat.zero_le _⟩) hP hD hS hA [0, 1, 2, 3, 4, 5] (by decide) rfl (fun _ => rfl) (fun r_13 u_11 H locs q_12 hP hD hS => ?_)
              have hP : PP G ([(mh, .inr (8, [.int (nI (2)), .ref m1, .ref m2, .int (nI (kn)), .ref m3, .int (nI (ke)), .ref m4, .int (nI (le)), .ref m5, .int (sp), .int (wr), .int (si), .int (on), .int (tw), .int (dn)])), (m1, .inl (cI G, 205, .inl (fun z9 => iI (ss z9)))), (m2, .inl (cI G, 1230, .inl (fun z9 => iI (hi z9)))), (m3, .inl (cI G, 410, .inl (fun z9 => iI (sl z9)))), (m4, .inl (cI G, 80, .inl (fun z9 => nI (tx z9)))), (m5, .inl (cI G, 128, .inl (fun z9 => iI (ne z9))))]) H := hP
              have hD : va_D A ([(mh, .inr (8, [.int (nI (2)), .ref m1, .ref m2, .int (nI (kn)), .ref m3, .int (nI (ke)), .ref m4, .int (nI (le)), .ref m5, .int (sp), .int (wr), .int (si), .int (on), .int (tw), .int (dn)])), (m1, .inl (cI G, 205, .inl (fun z9 => iI (ss z9)))), (m2, .inl (cI G, 1230, .inl (fun z9 => iI (hi z9)))), (m3, .inl (cI G, 410, .inl (fun z9 => iI (sl z9)))), (m4, .inl (cI G, 80, .inl (fun z9 => nI (tx z9)))), (m5, .inl (cI G, 128, .inl (fun z9 => iI (ne z9))))]) := hD
              refine topE (v' := nI (0)) (q_12.trans (bI_f (by omega))) ?_
              refine lv_if_ne (tgt := 95) hx hb dX9_appendText_90 (by decide) (fun c_14 => ?_) (fun c_14 => ?_)
              · have f_15 : ¬ (0 : Int) = (0 : Int) := fun z => c_14 ((c_eq (nI_toInt (n := 0) (by omega)) rfl).mpr z)
                exfalso; omega
              · have f_16 : (0 : Int) = (0 : Int) := (c_eq (nI_toInt (n := 0) (by omega)) rfl).mp c_14
                refine lv_iconst (v := nI (0)) hx hb dX9_appendText_93 (by decide) ?_
                exact xMi (G := G) (post := (fun (r : Int32) (u : Unit) => r = nI (0))) (w1 := (fun (u : Unit) => [(mh, .inr (8, [.int (nI (2)), .ref m1, .ref m2, .int (nI (kn)), .ref m3, .int (nI (ke)), .ref m4, .int (nI (le)), .ref m5, .int (sp), .int (wr), .int (si), .int (on), .int (tw), .int (dn)])), (m1, .inl (cI G, 205, .inl (fun z9 => iI (ss z9)))), (m2, .inl (cI G, 1230, .inl (fun z9 => iI (hi z9)))), (m3, .inl (cI G, 410, .inl (fun z9 => iI (sl z9)))), (m4, .inl (cI G, 80, .inl (fun z9 => nI (tx z9)))), (m5, .inl (cI G, 128, .inl (fun z9 => iI (ne z9))))])) (()) hx hb hr hlocks hP hS (by exact rfl) (by exact rfl) dX9_appendText_94
          · have f_17 : ¬ (gd) := bI_0.mp c_6
            exact absurd (hxe.2 f_17) hc0
      · have f_18 : ¬ (lc0 r) = (0 : Int) := fun z => c_1 ((c_eq (iI_toInt (by omega) (by omega)) rfl).mpr z)
        have hr0 : ¬ r = 0 := fun z9 => f_18 (lc0_z.mpr z9)
        have hi8 := dv_8 hi9 hri hr0
        have J_42 : ∀ (locs : List Loc) (ls : Array Slot), va_S A s.heap H locs → lv_has ls 7 [(0, .ref mh), (1, .long (lN cu)), (3, .int (nI (i))), (4, .int (bI (gd))), (5, .long (lN r))] → W pg l ev ({ frames := 1, cells := 0, slots := 0, locals := 22 } : Room) s m (([.ref mh, .long (lN cu)] : List Value).toArray) below meth c H locs 0 0 (MQ below (va_Qi (fun (r : Int32) (u : Unit) => r = nI (0)) (fun (u : Unit) t9 => PP G ([(mh, .inr (8, [.int (nI (2)), .ref m1, .ref m2, .int (nI (kn)), .ref m3, .int (nI (ke)), .ref m4, .int (nI (le)), .ref m5, .int (sp), .int (wr), .int (si), .int (on), .int (tw), .int (dn)])), (m1, .inl (cI G, 205, .inl (fun z9 => iI (ss z9)))), (m2, .inl (cI G, 1230, .inl (fun z9 => iI (hi z9)))), (m3, .inl (cI G, 410, .inl (fun z9 => iI (sl z9)))), (m4, .inl (cI G, 80, .inl (fun z9 => nI (tx z9)))), (m5, .inl (cI G, 128, .inl (fun z9 => iI (ne z9))))]) t9.heap) A) (([.ref mh, .long (lN cu)] : List Value).toArray) s 0 0 A) (F0 m 42 ls [.int (bI (gd ∧ (33 ≤ r % 256 ∧ r % 256 ≤ 126)))]) := by
          intro locs ls hS hl
          refine lv_istore (lv' := [(4, .int (bI (gd ∧ (33 ≤ r % 256 ∧ r % 256 ≤ 126)))), (0, .ref mh), (1, .long (lN cu)), (3, .int (nI (i))), (5, .long (lN r))]) hx hb dX9_appendText_42 hl (by decide) rfl (fun ls hl => ?_)
          refine lv_iinc (v := nI (i + 1)) (lv' := [(3, .int (nI (i + 1))), (4, .int (bI (gd ∧ (33 ≤ r % 256 ∧ r % 256 ≤ 126)))), (0, .ref mh), (1, .long (lN cu)), (5, .long (lN r))]) hx hb dX9_appendText_44 hl (k := 3) rfl (inc_p i 1) (by decide) rfl (fun ls hl => ?_)
          refine lv_lload hx hb dX9_appendText_47 (lv_at hl 4 rfl) ?_
          refine lv_bipush (v := nI (8)) hx hb dX9_appendText_49 (by decide) ?_
          refine lv_lushr (v := lN (r / 256)) hx hb dX9_appendText_51 (wb_shr (k := 8) (by assumption) (by omega)) ?_
          refine lv_lstore (lv' := [(5, .long (lN (r / 256))), (3, .int (nI (i + 1))), (4, .int (bI (gd ∧ (33 ≤ r % 256 ∧ r % 256 ≤ 126)))), (0, .ref mh), (1, .long (lN cu))]) hx hb dX9_appendText_52 hl (by decide) rfl (fun ls hl => ?_)
          refine lv_goto (tgt := 8) hx hb dX9_appendText_54 (by decide) ?_
          exact ih_8 (i + 1) (r / 256) (gd ∧ (33 ≤ r % 256 ∧ r % 256 ≤ 126)) (by omega) (by omega) (by omega) (dv_256 hi8 hri) (ap_s hi8 hr0 hcs) H locs ls hP hD hS (lv_sub hl [3, 4, 1, 2, 0] ((lvc rfl (lvc rfl (lvc (congrArg Value.int (rfl)) (lvc (congrArg Value.int (rfl)) (lvc rfl rfl)))))))
        refine lv_iload hx hb dX9_appendText_15 (lv_at hl 3 rfl) ?_
        refine lv_if_eq (tgt := 41) hx hb dX9_appendText_17 (by decide) (fun c_19 => ?_) (fun c_19 => ?_)
        · have f_20 : ¬ (gd) := bI_0.mp c_19
          refine lv_iconst (v := nI (0)) hx hb dX9_appendText_41 (by decide) ?_
          refine topE (v' := bI (gd ∧ (33 ≤ r % 256 ∧ r % 256 ≤ 126))) ((bI_f (fun z => f_20 z.1)).symm) ?_
          exact J_42 locs ls hS (lv_sub hl [0, 1, 2, 3, 4] (rfl))
        · have f_21 : (gd) := Classical.byContradiction (fun z => c_19 (bI_0.mpr z))
          refine lv_lload hx hb dX9_appendText_20 (lv_at hl 4 rfl) ?_
          refine lv_ldc2 (v := 255) hx hb hown (hts (.constantLong RX9 122 (255)) (by decide +kernel)) dX9_appendText_22 ?_
          refine g_land (z := lN (r % 256)) hx hb dX9_appendText_25 (la255 (by assumption)) ?_
          refine lv_l2i (v := nI (r % 256)) hx hb dX9_appendText_26 (l2i_N (by omega)) ?_
          refine lv_bipush (v := nI (33)) hx hb dX9_appendText_27 (by decide) ?_
          refine lv_bipush (v := nI (126)) hx hb dX9_appendText_29 (by decide) ?_
          refine kPi (va_runS (As := [.int (nI (r % 256)), .int (nI (33)), .int (nI (126))]) (rest := []) ⟨hx, hb, hml, hown, hts⟩ (c_X9_in (nI (r % 256)) (nI (33)) (nI (126))) (va_cwS 3 hts gX9_appendText_X9_in rfl rfl rfl (by decide +kernel) ⟨Nat.le_of_ble_eq_true rfl, Nat.le_of_ble_eq_true rfl⟩) (preS hC hS hLo) rfl rfl hl.1 rfl (lv_room (Nat.le_of_ble_eq_true rfl)) dX9_appendText_31 ⟨Nat.zero_le _, Nat.zero_le _⟩) hS (fun locs hS => ?_)
          refine topE (v' := bI (33 ≤ r % 256 ∧ r % 256 ≤ 126)) (bI_c (by rw [nI_toInt (by omega), nI_toInt (by omega), nI_toInt (by omega)]; omega)) ?_
          refine lv_if_eq (tgt := 41) hx hb dX9_appendText_34 (by decide) (fun c_22 => ?_) (fun c_22 => ?_)
          · have f_23 : ¬ (33 ≤ r % 256 ∧ r % 256 ≤ 126) := bI_0.mp c_22
            refine lv_iconst (v := nI (0)) hx hb dX9_appendText_41 (by decide) ?_
            refine topE (v' := bI (gd ∧ (33 ≤ r % 256 ∧ r % 256 ≤ 126))) ((bI_f (fun z => f_23 z.2)).symm) ?_
            exact J_42 locs ls hS (lv_sub hl [0, 1, 2, 3, 4] (rfl))
          · have f_24 : (33 ≤ r % 256 ∧ r % 256 ≤ 126) := Classical.byContradiction (fun z => c_22 (bI_0.mpr z))
            refine lv_iconst (v := nI (1)) hx hb dX9_appendText_37 (by decide) ?_
            refine lv_goto (tgt := 42) hx hb dX9_appendText_38 (by decide) ?_
            refine topE (v' := bI (gd ∧ (33 ≤ r % 256 ∧ r % 256 ≤ 126))) ((bI_t ⟨f_21, f_24⟩).symm) ?_
            exact J_42 locs ls hS (lv_sub hl [0, 1, 2, 3, 4] (rfl))
  exact L_8 (_ + 1) 0 cu True (Nat.lt_succ_self _) (by omega) hu hu ⟨fun _ => rfl, fun z => absurd trivial z⟩ s.heap locs ls hP hD hS (lv_sub hl [3, 4, 2, 1, 0] (lvc rfl (lvc rfl (lvc rfl (lvc (congrArg Value.int ((bI_t trivial).symm)) (lvc rfl rfl))))))
