set_option maxHeartbeats 4000000 in
set_option maxRecDepth 100000 in
theorem lwc_3 {pg : Program} {l : Launch} {ev : Env} {s : State} {m : MethodId} {below : List Frame} {meth : Method} {c : Code} {Q : State → Prop} {G : GT} {bq L : Nat} {xs : Nat → Int32} (hLK : LK pg l s m meth c bq L xs G) (c0 s0 : Nat) (hroom : c0 + 1 ≤ 601024 ∧ s0 + 6 ≤ 7293034) {a : Nat → Nat} {oa mh m1 m2 m3 m4 m5 : Nat} (i : Nat) (hi5 : i + 5 ≤ L) {H : Heap} {locs : List Loc} {ls : Array Slot} (hI : INV G a oa mh m1 m2 m3 m4 m5 bq s i H locs ls)
    (hk : ∀ (H : Heap) (locs : List Loc) (ls : Array Slot), INV G a oa mh m1 m2 m3 m4 m5 bq s i H locs ls → W pg l ev room_1 s m #[Value.ref bq] below meth c H locs (c0 + 1) (s0 + 6) Q (F0 m 1768 ls [])) :
    W pg l ev room_1 s m #[Value.ref bq] below meth c H locs c0 s0 Q (F0 m 420 ls []) := by
  obtain ⟨mo, ki, pr, df, co, bi, g9, lr, bf, nx, hv, v0, k0, v1, k1, of, ss, hi, sl, tx, ne, th, kn, ke, le, sp, wr, si, on, tw, dn, k, o, hP, hD, hS, hl, hR⟩ := hI
  obtain ⟨hM, hKO, hmo, hdf, htx, hle, hnx, hkn, hHR, hSL⟩ := hR
  have hd := MR_d hM
  have ht := MR_t hM
  have hg := MR_g hM
  have g : GV (vOf ss k o) ss := ⟨k, o, rfl, hM, hKO⟩
  by_cases hz : (xs (i + 1)).toInt = 0
  · by_cases hms : ss 194 < 999
    · by_cases hkey : (ss 194).toNat % (ss 193).toNat = 0
      · exact lw_3_k0 hLK c0 s0 hroom a (vOf ss k o) mo ki pr df co bi g9 lr bf tx le nx kn hv v0 k0 v1 k1 oa of mh m1 m2 m3 m4 m5 ss hi sl tx ne th kn ke le sp wr si on tw dn  i  hi5 hnx hkn (vo_my hM hms) (vo_kd hM) (vo_pi hM) hkey hkn hM hkey hms hz rfl hP hD hS hl (fun  H locs ls hP hD hS hl => W.widen (k := c0 + 1) (n := s0 + 6) (by omega) (by omega) (hk H locs ls (INV_of mo (fzK ki 4) pr df (iI (-1)) 264 g9 lr ((vOf ss k o).2.2.1) ((nx + 1) % 6) (va_up hv nx (vOf ss k o)) v0 k0 v1 k1 (vp_updL of 0 ((nI (264)).toInt64)) (sdR ss (dS ss) (dS ss) (fun _ => 0) (BEST (dS ss) (tS ss)) (264) 0) (recH hi ss kn) sl tx (nxP (dS ss) (dS ss) ne 4) (nI 0) (min (kn + 1) 6) ke le sp wr si on tw dn (fun _ => 0) mo (eq_sd hM (fun j _ => by first | rfl | (rw [if_pos rfl]) | (rw [if_neg (by omega)])) (fun _ _ => rfl) rfl) hP hD hS hl ⟨(MR_sdR hM hd hd (Nat.le_refl _) (by omega) hms), (KO_sd hM (fun _ => Nat.zero_le 2) (fun _ _ z => absurd rfl z)), hmo, hdf, htx, hle, (Nat.mod_lt _ (by omega)), (Nat.min_le_right _ _), (HR_rec hnx hkn hHR g), hSL⟩)))
      · exact lw_3_n0 hLK c0 s0 hroom a (vOf ss k o) mo ki pr df co bi g9 lr bf tx le nx kn hv v0 k0 v1 k1 oa of mh m1 m2 m3 m4 m5 ss hi sl tx ne th kn ke le sp wr si on tw dn  i  hi5 hnx hkn (vo_my hM hms) hd ht hg hdf hmo (vo_kd hM) (vo_pi hM) hkey (vo_bu hM) hkn hM hkey hms hz rfl hP hD hS hl (fun  H locs ls hP hD hS hl => W.widen (k := c0 + 1) (n := s0 + 6) (by omega) (by omega) (hk H locs ls (INV_of (BEST (vOf ss k o).1 (vOf ss k o).2.1) (knN (vOf ss k o).1 (vOf ss k o).2.1 (vOf ss k o).2.2.2.2.2.1) (pN (vOf ss k o).1 (vOf ss k o).2.1) (dN (vOf ss k o).1 (vOf ss k o).2.1) (nI (COM (vOf ss k o).1 (vOf ss k o).2.1 (vOf ss k o).2.2.2.2.2.1)) (ABM (vOf ss k o).1 (vOf ss k o).2.1 (COM (vOf ss k o).1 (vOf ss k o).2.1 (vOf ss k o).2.2.2.2.2.1) 4) g9 lr ((vOf ss k o).2.2.1) ((nx + 1) % 6) (va_up hv nx (vOf ss k o)) v0 k0 v1 k1 (vp_updL of 0 ((nI (ABM (vOf ss k o).1 (vOf ss k o).2.1 (COM (vOf ss k o).1 (vOf ss k o).2.1 (vOf ss k o).2.2.2.2.2.1) 4)).toInt64)) (sdR ss (nT (dS ss) (tS ss) (ss 192).toNat) (nG (dS ss) (tS ss) (rS ss) (ss 192).toNat) (knN (dS ss) (tS ss) (ss 192).toNat) (BEST (dS ss) (tS ss)) (ABM (dS ss) (tS ss) (COM (dS ss) (tS ss) (ss 192).toNat) 4) 0) (recH hi ss kn) sl tx (nxP (nT (dS ss) (tS ss) (ss 192).toNat) (nG (dS ss) (tS ss) (rS ss) (ss 192).toNat) ne 4) (nI 0) (min (kn + 1) 6) ke le sp wr si on tw dn (knN (dS ss) (tS ss) (ss 192).toNat) (BEST (dS ss) (tS ss)) (eq_sd hM (fun j _ => by first | rfl | (rw [if_pos rfl]) | (rw [if_neg (by omega)])) (fun _ _ => rfl) rfl) hP hD hS hl ⟨(MR_sdR hM (nT_R hd ht _) (nG_R hd _) (ABM_le _ _ _ 4) (by omega) hms), (KO_sd hM (fun _ => KDM_le _ _ _ _) (fun _ _ _ => rfl)), (BEST_M _ _), (dN_D hd ht), htx, hle, (Nat.mod_lt _ (by omega)), (Nat.min_le_right _ _), (HR_rec hnx hkn hHR g), hSL⟩)))
    · exact lw_3_x0 hLK c0 s0 hroom a (vOf ss k o) mo ki pr df co bi g9 lr bf tx le nx kn hv v0 k0 v1 k1 oa of mh m1 m2 m3 m4 m5 ss hi sl tx ne th kn ke le sp wr si on tw dn  i 0 hi5 (vo_kd hM) (vo_pi hM) (vo_mn hM hms) hM hms hz hP hD hS hl (fun  H locs ls hP hD hS hl => W.widen (k := c0 + 1) (n := s0 + 6) (by omega) (by omega) (hk H locs ls (INV_of mo ki pr df co bi g9 lr bf nx hv v0 k0 v1 k1 of ss hi sl tx ne (nI 1) kn ke le sp wr si on tw dn k o (eqv_rfl _) hP hD hS hl ⟨hM, hKO, hmo, hdf, htx, hle, hnx, hkn, hHR, hSL⟩)))
  · by_cases hms : ss 194 < 999
    · by_cases hkey : (ss 194).toNat % (ss 193).toNat = 0
      · exact lw_3_k1 hLK c0 s0 hroom a (vOf ss k o) mo ki pr df co bi g9 lr bf tx le nx kn hv v0 k0 v1 k1 oa of mh m1 m2 m3 m4 m5 ss hi sl tx ne th kn ke le sp wr si on tw dn  i  hi5 hnx hkn (vo_my hM hms) (vo_kd hM) (vo_pi hM) hkey hkn hM hkey hms hz rfl hP hD hS hl (fun  H locs ls hP hD hS hl => W.widen (k := c0 + 1) (n := s0 + 6) (by omega) (by omega) (hk H locs ls (INV_of mo (fzK ki 4) pr df (iI (-1)) 264 g9 lr bf ((nx + 1) % 6) (va_up hv nx (vOf ss k o)) v0 k0 v1 k1 (vp_updL of 0 ((nI (264)).toInt64)) (sdR ss (dS ss) (dS ss) (fun _ => 0) (BEST (dS ss) (tS ss)) (264) 1) (recH hi ss kn) sl tx (nxP (dS ss) (dS ss) ne 4) (nI 0) (min (kn + 1) 6) ke le sp wr si on tw dn (fun _ => 0) mo (eq_sd hM (fun j _ => by first | rfl | (rw [if_pos rfl]) | (rw [if_neg (by omega)])) (fun _ _ => rfl) rfl) hP hD hS hl ⟨(MR_sdR hM hd hd (Nat.le_refl _) (by omega) hms), (KO_sd hM (fun _ => Nat.zero_le 2) (fun _ _ z => absurd rfl z)), hmo, hdf, htx, hle, (Nat.mod_lt _ (by omega)), (Nat.min_le_right _ _), (HR_rec hnx hkn hHR g), hSL⟩)))
      · exact lw_3_n1 hLK c0 s0 hroom a (vOf ss k o) mo ki pr df co bi g9 lr bf tx le nx kn hv v0 k0 v1 k1 oa of mh m1 m2 m3 m4 m5 ss hi sl tx ne th kn ke le sp wr si on tw dn  i  hi5 hnx hkn (vo_my hM hms) hd ht hg hdf hmo (vo_kd hM) (vo_pi hM) hkey (vo_bu hM) hkn hM hkey hms hz rfl hP hD hS hl (fun  H locs ls hP hD hS hl => W.widen (k := c0 + 1) (n := s0 + 6) (by omega) (by omega) (hk H locs ls (INV_of (BEST (vOf ss k o).1 (vOf ss k o).2.1) (knN (vOf ss k o).1 (vOf ss k o).2.1 (vOf ss k o).2.2.2.2.2.1) (pN (vOf ss k o).1 (vOf ss k o).2.1) (dN (vOf ss k o).1 (vOf ss k o).2.1) (nI (COM (vOf ss k o).1 (vOf ss k o).2.1 (vOf ss k o).2.2.2.2.2.1)) (ABM (vOf ss k o).1 (vOf ss k o).2.1 (COM (vOf ss k o).1 (vOf ss k o).2.1 (vOf ss k o).2.2.2.2.2.1) 4) g9 lr bf ((nx + 1) % 6) (va_up hv nx (vOf ss k o)) v0 k0 v1 k1 (vp_updL of 0 ((nI (ABM (vOf ss k o).1 (vOf ss k o).2.1 (COM (vOf ss k o).1 (vOf ss k o).2.1 (vOf ss k o).2.2.2.2.2.1) 4)).toInt64)) (sdR ss (nT (dS ss) (tS ss) (ss 192).toNat) (nG (dS ss) (tS ss) (rS ss) (ss 192).toNat) (knN (dS ss) (tS ss) (ss 192).toNat) (BEST (dS ss) (tS ss)) (ABM (dS ss) (tS ss) (COM (dS ss) (tS ss) (ss 192).toNat) 4) 1) (recH hi ss kn) sl tx (nxP (nT (dS ss) (tS ss) (ss 192).toNat) (nG (dS ss) (tS ss) (rS ss) (ss 192).toNat) ne 4) (nI 0) (min (kn + 1) 6) ke le sp wr si on tw dn (knN (dS ss) (tS ss) (ss 192).toNat) (BEST (dS ss) (tS ss)) (eq_sd hM (fun j _ => by first | rfl | (rw [if_pos rfl]) | (rw [if_neg (by omega)])) (fun _ _ => rfl) rfl) hP hD hS hl ⟨(MR_sdR hM (nT_R hd ht _) (nG_R hd _) (ABM_le _ _ _ 4) (by omega) hms), (KO_sd hM (fun _ => KDM_le _ _ _ _) (fun _ _ _ => rfl)), (BEST_M _ _), (dN_D hd ht), htx, hle, (Nat.mod_lt _ (by omega)), (Nat.min_le_right _ _), (HR_rec hnx hkn hHR g), hSL⟩)))
    · exact lw_3_x1 hLK c0 s0 hroom a (vOf ss k o) mo ki pr df co bi g9 lr bf tx le nx kn hv v0 k0 v1 k1 oa of mh m1 m2 m3 m4 m5 ss hi sl tx ne th kn ke le sp wr si on tw dn  i 0 hi5 (vo_kd hM) (vo_pi hM) (vo_mn hM hms) hM hms hz hP hD hS hl (fun  H locs ls hP hD hS hl => W.widen (k := c0 + 1) (n := s0 + 6) (by omega) (by omega) (hk H locs ls (INV_of mo ki pr df co bi g9 lr bf nx hv v0 k0 v1 k1 of ss hi sl tx ne (nI 1) kn ke le sp wr si on tw dn k o (eqv_rfl _) hP hD hS hl ⟨hM, hKO, hmo, hdf, htx, hle, hnx, hkn, hHR, hSL⟩)))

set_option maxHeartbeats 4000000 in
set_option maxRecDepth 100000 in
theorem lwc_4 {pg : Program} {l : Launch} {ev : Env} {s : State} {m : MethodId} {below : List Frame} {meth : Method} {c : Code} {Q : State → Prop} {G : GT} {bq L : Nat} {xs : Nat → Int32} (hLK : LK pg l s m meth c bq L xs G) (c0 s0 : Nat) (hroom : c0 + 1 ≤ 601024 ∧ s0 + 6 ≤ 7293034) {a : Nat → Nat} {oa mh m1 m2 m3 m4 m5 : Nat} (i : Nat) (hi5 : i + 5 ≤ L) {H : Heap} {locs : List Loc} {ls : Array Slot} (hI : INV G a oa mh m1 m2 m3 m4 m5 bq s i H locs ls)
    (hk : ∀ (H : Heap) (locs : List Loc) (ls : Array Slot), INV G a oa mh m1 m2 m3 m4 m5 bq s i H locs ls → W pg l ev room_1 s m #[Value.ref bq] below meth c H locs (c0 + 1) (s0 + 6) Q (F0 m 1768 ls [])) :
    W pg l ev room_1 s m #[Value.ref bq] below meth c H locs c0 s0 Q (F0 m 492 ls []) := by
  obtain ⟨mo, ki, pr, df, co, bi, g9, lr, bf, nx, hv, v0, k0, v1, k1, of, ss, hi, sl, tx, ne, th, kn, ke, le, sp, wr, si, on, tw, dn, k, o, hP, hD, hS, hl, hR⟩ := hI
  obtain ⟨hM, hKO, hmo, hdf, htx, hle, hnx, hkn, hHR, hSL⟩ := hR
  have hd := MR_d hM
  have ht := MR_t hM
  have hg := MR_g hM
  have g : GV (vOf ss k o) ss := ⟨k, o, rfl, hM, hKO⟩
  rcases arg_r (xs (i + 1)) 4 300 (by omega) with ⟨q, hq, e1, f1⟩ | hb1
  · have hq : 4 ≤ q ∧ q ≤ 300 := by omega
    exact lw_4_ok hLK c0 s0 hroom a (vOf ss k o) mo ki pr df co bi g9 lr bf tx le nx kn hv v0 k0 v1 k1 oa of mh m1 m2 m3 m4 m5 ss hi sl tx ne th kn ke le sp wr si on tw dn  i q hi5 e1 hnx hkn hq hkn (iN (by have := hM.2.1; omega)) hP hD hS hl (fun  H locs ls hP hD hS hl => W.widen (k := c0 + 1) (n := s0 + 6) (by omega) (by omega) (hk H locs ls (INV_of mo ki pr df co bi g9 lr bf ((nx + 1) % 6) (va_up hv nx (vOf ss k o)) v0 k0 v1 k1 (vp_updL of 0 ((nI ((vOf ss k o).2.2.2.2.2.1)).toInt64)) (va_up ss 192 (q : Int)) (recH hi ss kn) sl tx ne (nI 0) (min (kn + 1) 6) ke le sp wr si on tw dn k o eq_bu hP hD hS hl ⟨(MR_bu hM hq), (KO_ag hKO (fun j h2 _ => va_up_ne _ _ (by omega))), hmo, hdf, htx, hle, (Nat.mod_lt _ (by omega)), (Nat.min_le_right _ _), (HR_rec hnx hkn hHR g), hSL⟩)))
  · exact lw_4_x1 hLK c0 s0 hroom a (vOf ss k o) mo ki pr df co bi g9 lr bf tx le nx kn hv v0 k0 v1 k1 oa of mh m1 m2 m3 m4 m5 ss hi sl tx ne th kn ke le sp wr si on tw dn  i (xs (i + 1)) hi5 rfl hb1 hP hD hS hl (fun  H locs ls hP hD hS hl => W.widen (k := c0 + 1) (n := s0 + 6) (by omega) (by omega) (hk H locs ls (INV_of mo ki pr df co bi g9 lr bf nx hv v0 k0 v1 k1 of ss hi sl tx ne (nI 1) kn ke le sp wr si on tw dn k o (eqv_rfl _) hP hD hS hl ⟨hM, hKO, hmo, hdf, htx, hle, hnx, hkn, hHR, hSL⟩)))

set_option maxHeartbeats 4000000 in
set_option maxRecDepth 100000 in
theorem lwc_5 {pg : Program} {l : Launch} {ev : Env} {s : State} {m : MethodId} {below : List Frame} {meth : Method} {c : Code} {Q : State → Prop} {G : GT} {bq L : Nat} {xs : Nat → Int32} (hLK : LK pg l s m meth c bq L xs G) (c0 s0 : Nat) (hroom : c0 + 1 ≤ 601024 ∧ s0 + 6 ≤ 7293034) {a : Nat → Nat} {oa mh m1 m2 m3 m4 m5 : Nat} (i : Nat) (hi5 : i + 5 ≤ L) {H : Heap} {locs : List Loc} {ls : Array Slot} (hI : INV G a oa mh m1 m2 m3 m4 m5 bq s i H locs ls)
    (hk : ∀ (H : Heap) (locs : List Loc) (ls : Array Slot), INV G a oa mh m1 m2 m3 m4 m5 bq s i H locs ls → W pg l ev room_1 s m #[Value.ref bq] below meth c H locs (c0 + 1) (s0 + 6) Q (F0 m 1768 ls [])) :
    W pg l ev room_1 s m #[Value.ref bq] below meth c H locs c0 s0 Q (F0 m 548 ls []) := by
  obtain ⟨mo, ki, pr, df, co, bi, g9, lr, bf, nx, hv, v0, k0, v1, k1, of, ss, hi, sl, tx, ne, th, kn, ke, le, sp, wr, si, on, tw, dn, k, o, hP, hD, hS, hl, hR⟩ := hI
  obtain ⟨hM, hKO, hmo, hdf, htx, hle, hnx, hkn, hHR, hSL⟩ := hR
  have hd := MR_d hM
  have ht := MR_t hM
  have hg := MR_g hM
  have g : GV (vOf ss k o) ss := ⟨k, o, rfl, hM, hKO⟩
  rcases arg_r (xs (i + 1)) 1 20 (by omega) with ⟨q, hq, e1, f1⟩ | hb1
  · have hq : 1 ≤ q ∧ q ≤ 20 := by omega
    exact lw_5_ok hLK c0 s0 hroom a (vOf ss k o) mo ki pr df co bi g9 lr bf tx le nx kn hv v0 k0 v1 k1 oa of mh m1 m2 m3 m4 m5 ss hi sl tx ne th kn ke le sp wr si on tw dn  i q hi5 e1 hnx hkn hq hkn (iN (by have := hM.2.2.1; omega)) hP hD hS hl (fun  H locs ls hP hD hS hl => W.widen (k := c0 + 1) (n := s0 + 6) (by omega) (by omega) (hk H locs ls (INV_of mo ki pr df co bi g9 lr bf ((nx + 1) % 6) (va_up hv nx (vOf ss k o)) v0 k0 v1 k1 (vp_updL of 0 ((nI ((vOf ss k o).2.2.2.2.2.2.1)).toInt64)) (va_up ss 193 (q : Int)) (recH hi ss kn) sl tx ne (nI 0) (min (kn + 1) 6) ke le sp wr si on tw dn k o eq_kd hP hD hS hl ⟨(MR_kd hM hq), (KO_ag hKO (fun j h2 _ => va_up_ne _ _ (by omega))), hmo, hdf, htx, hle, (Nat.mod_lt _ (by omega)), (Nat.min_le_right _ _), (HR_rec hnx hkn hHR g), hSL⟩)))
  · exact lw_5_x1 hLK c0 s0 hroom a (vOf ss k o) mo ki pr df co bi g9 lr bf tx le nx kn hv v0 k0 v1 k1 oa of mh m1 m2 m3 m4 m5 ss hi sl tx ne th kn ke le sp wr si on tw dn  i (xs (i + 1)) hi5 rfl hb1 hP hD hS hl (fun  H locs ls hP hD hS hl => W.widen (k := c0 + 1) (n := s0 + 6) (by omega) (by omega) (hk H locs ls (INV_of mo ki pr df co bi g9 lr bf nx hv v0 k0 v1 k1 of ss hi sl tx ne (nI 1) kn ke le sp wr si on tw dn k o (eqv_rfl _) hP hD hS hl ⟨hM, hKO, hmo, hdf, htx, hle, hnx, hkn, hHR, hSL⟩)))

set_option maxHeartbeats 4000000 in
set_option maxRecDepth 100000 in
theorem lwc_6 {pg : Program} {l : Launch} {ev : Env} {s : State} {m : MethodId} {below : List Frame} {meth : Method} {c : Code} {Q : State → Prop} {G : GT} {bq L : Nat} {xs : Nat → Int32} (hLK : LK pg l s m meth c bq L xs G) (c0 s0 : Nat) (hroom : c0 + 1 ≤ 601024 ∧ s0 + 6 ≤ 7293034) {a : Nat → Nat} {oa mh m1 m2 m3 m4 m5 : Nat} (i : Nat) (hi5 : i + 5 ≤ L) {H : Heap} {locs : List Loc} {ls : Array Slot} (hI : INV G a oa mh m1 m2 m3 m4 m5 bq s i H locs ls)
    (hk : ∀ (H : Heap) (locs : List Loc) (ls : Array Slot), INV G a oa mh m1 m2 m3 m4 m5 bq s i H locs ls → W pg l ev room_1 s m #[Value.ref bq] below meth c H locs (c0 + 1) (s0 + 6) Q (F0 m 1768 ls [])) :
    W pg l ev room_1 s m #[Value.ref bq] below meth c H locs c0 s0 Q (F0 m 604 ls []) := by
  obtain ⟨mo, ki, pr, df, co, bi, g9, lr, bf, nx, hv, v0, k0, v1, k1, of, ss, hi, sl, tx, ne, th, kn, ke, le, sp, wr, si, on, tw, dn, k, o, hP, hD, hS, hl, hR⟩ := hI
  obtain ⟨hM, hKO, hmo, hdf, htx, hle, hnx, hkn, hHR, hSL⟩ := hR
  have hd := MR_d hM
  have ht := MR_t hM
  have hg := MR_g hM
  have g : GV (vOf ss k o) ss := ⟨k, o, rfl, hM, hKO⟩
  rcases arg_n (xs (i + 1)) 64 with ⟨p, hp, e1⟩ | hb1
  · have hp : p < 64 := by omega
    exact lw_6_ok hLK c0 s0 hroom a (vOf ss k o) mo ki pr df co bi g9 lr bf tx le nx kn hv v0 k0 v1 k1 oa of mh m1 m2 m3 m4 m5 ss hi sl tx ne th kn ke le sp wr si on tw dn  i p hi5 e1 hp (congrArg iI (dS_at hp)) hP hD hS hl (fun  H locs ls hP hD hS hl => W.widen (k := c0 + 1) (n := s0 + 6) (by omega) (by omega) (hk H locs ls (INV_of mo ki pr df co bi g9 lr bf nx hv v0 k0 v1 k1 (vp_updL of 0 ((iI ((vOf ss k o).1 p)).toInt64)) ss hi sl tx ne (nI 0) kn ke le sp wr si on tw dn k o (eqv_rfl _) hP hD hS hl ⟨hM, hKO, hmo, hdf, htx, hle, hnx, hkn, hHR, hSL⟩)))
  · exact lw_6_x1 hLK c0 s0 hroom a (vOf ss k o) mo ki pr df co bi g9 lr bf tx le nx kn hv v0 k0 v1 k1 oa of mh m1 m2 m3 m4 m5 ss hi sl tx ne th kn ke le sp wr si on tw dn  i (xs (i + 1)) hi5 rfl hb1 hP hD hS hl (fun  H locs ls hP hD hS hl => W.widen (k := c0 + 1) (n := s0 + 6) (by omega) (by omega) (hk H locs ls (INV_of mo ki pr df co bi g9 lr bf nx hv v0 k0 v1 k1 of ss hi sl tx ne (nI 1) kn ke le sp wr si on tw dn k o (eqv_rfl _) hP hD hS hl ⟨hM, hKO, hmo, hdf, htx, hle, hnx, hkn, hHR, hSL⟩)))

set_option maxHeartbeats 4000000 in
set_option maxRecDepth 100000 in
theorem lwc_7 {pg : Program} {l : Launch} {ev : Env} {s : State} {m : MethodId} {below : List Frame} {meth : Method} {c : Code} {Q : State → Prop} {G : GT} {bq L : Nat} {xs : Nat → Int32} (hLK : LK pg l s m meth c bq L xs G) (c0 s0 : Nat) (hroom : c0 + 1 ≤ 601024 ∧ s0 + 6 ≤ 7293034) {a : Nat → Nat} {oa mh m1 m2 m3 m4 m5 : Nat} (i : Nat) (hi5 : i + 5 ≤ L) {H : Heap} {locs : List Loc} {ls : Array Slot} (hI : INV G a oa mh m1 m2 m3 m4 m5 bq s i H locs ls)
    (hk : ∀ (H : Heap) (locs : List Loc) (ls : Array Slot), INV G a oa mh m1 m2 m3 m4 m5 bq s i H locs ls → W pg l ev room_1 s m #[Value.ref bq] below meth c H locs (c0 + 1) (s0 + 6) Q (F0 m 1768 ls [])) :
    W pg l ev room_1 s m #[Value.ref bq] below meth c H locs c0 s0 Q (F0 m 660 ls []) := by
  obtain ⟨mo, ki, pr, df, co, bi, g9, lr, bf, nx, hv, v0, k0, v1, k1, of, ss, hi, sl, tx, ne, th, kn, ke, le, sp, wr, si, on, tw, dn, k, o, hP, hD, hS, hl, hR⟩ := hI
  obtain ⟨hM, hKO, hmo, hdf, htx, hle, hnx, hkn, hHR, hSL⟩ := hR
  have hd := MR_d hM
  have ht := MR_t hM
  have hg := MR_g hM
  have g : GV (vOf ss k o) ss := ⟨k, o, rfl, hM, hKO⟩
  rcases arg_n (xs (i + 1)) 64 with ⟨p, hp, e1⟩ | hb1
  · have hp : p < 64 := by omega
    exact lw_7_ok hLK c0 s0 hroom a (vOf ss k o) mo ki pr df co bi g9 lr bf tx le nx kn hv v0 k0 v1 k1 oa of mh m1 m2 m3 m4 m5 ss hi sl tx ne th kn ke le sp wr si on tw dn  i p hi5 e1 hp (congrArg iI (tS_at hp)) hP hD hS hl (fun  H locs ls hP hD hS hl => W.widen (k := c0 + 1) (n := s0 + 6) (by omega) (by omega) (hk H locs ls (INV_of mo ki pr df co bi g9 lr bf nx hv v0 k0 v1 k1 (vp_updL of 0 ((iI ((vOf ss k o).2.1 p)).toInt64)) ss hi sl tx ne (nI 0) kn ke le sp wr si on tw dn k o (eqv_rfl _) hP hD hS hl ⟨hM, hKO, hmo, hdf, htx, hle, hnx, hkn, hHR, hSL⟩)))
  · exact lw_7_x1 hLK c0 s0 hroom a (vOf ss k o) mo ki pr df co bi g9 lr bf tx le nx kn hv v0 k0 v1 k1 oa of mh m1 m2 m3 m4 m5 ss hi sl tx ne th kn ke le sp wr si on tw dn  i (xs (i + 1)) hi5 rfl hb1 hP hD hS hl (fun  H locs ls hP hD hS hl => W.widen (k := c0 + 1) (n := s0 + 6) (by omega) (by omega) (hk H locs ls (INV_of mo ki pr df co bi g9 lr bf nx hv v0 k0 v1 k1 of ss hi sl tx ne (nI 1) kn ke le sp wr si on tw dn k o (eqv_rfl _) hP hD hS hl ⟨hM, hKO, hmo, hdf, htx, hle, hnx, hkn, hHR, hSL⟩)))

set_option maxHeartbeats 4000000 in
set_option maxRecDepth 100000 in
theorem lwc_8 {pg : Program} {l : Launch} {ev : Env} {s : State} {m : MethodId} {below : List Frame} {meth : Method} {c : Code} {Q : State → Prop} {G : GT} {bq L : Nat} {xs : Nat → Int32} (hLK : LK pg l s m meth c bq L xs G) (c0 s0 : Nat) (hroom : c0 + 1 ≤ 601024 ∧ s0 + 6 ≤ 7293034) {a : Nat → Nat} {oa mh m1 m2 m3 m4 m5 : Nat} (i : Nat) (hi5 : i + 5 ≤ L) {H : Heap} {locs : List Loc} {ls : Array Slot} (hI : INV G a oa mh m1 m2 m3 m4 m5 bq s i H locs ls)
    (hk : ∀ (H : Heap) (locs : List Loc) (ls : Array Slot), INV G a oa mh m1 m2 m3 m4 m5 bq s i H locs ls → W pg l ev room_1 s m #[Value.ref bq] below meth c H locs (c0 + 1) (s0 + 6) Q (F0 m 1768 ls [])) :
    W pg l ev room_1 s m #[Value.ref bq] below meth c H locs c0 s0 Q (F0 m 716 ls []) := by
  obtain ⟨mo, ki, pr, df, co, bi, g9, lr, bf, nx, hv, v0, k0, v1, k1, of, ss, hi, sl, tx, ne, th, kn, ke, le, sp, wr, si, on, tw, dn, k, o, hP, hD, hS, hl, hR⟩ := hI
  obtain ⟨hM, hKO, hmo, hdf, htx, hle, hnx, hkn, hHR, hSL⟩ := hR
  have hd := MR_d hM
  have ht := MR_t hM
  have hg := MR_g hM
  have g : GV (vOf ss k o) ss := ⟨k, o, rfl, hM, hKO⟩
  rcases arg_n (xs (i + 1)) 64 with ⟨p, hp, e1⟩ | hb1
  · have hp : p < 64 := by omega
    exact lw_8_ok hLK c0 s0 hroom a (vOf ss k o) mo ki pr df co bi g9 lr bf tx le nx kn hv v0 k0 v1 k1 oa of mh m1 m2 m3 m4 m5 ss hi sl tx ne th kn ke le sp wr si on tw dn  i p hi5 e1 hp (congrArg iI (rS_at hp)) hP hD hS hl (fun  H locs ls hP hD hS hl => W.widen (k := c0 + 1) (n := s0 + 6) (by omega) (by omega) (hk H locs ls (INV_of mo ki pr df co bi g9 lr bf nx hv v0 k0 v1 k1 (vp_updL of 0 ((iI ((vOf ss k o).2.2.1 p)).toInt64)) ss hi sl tx ne (nI 0) kn ke le sp wr si on tw dn k o (eqv_rfl _) hP hD hS hl ⟨hM, hKO, hmo, hdf, htx, hle, hnx, hkn, hHR, hSL⟩)))
  · exact lw_8_x1 hLK c0 s0 hroom a (vOf ss k o) mo ki pr df co bi g9 lr bf tx le nx kn hv v0 k0 v1 k1 oa of mh m1 m2 m3 m4 m5 ss hi sl tx ne th kn ke le sp wr si on tw dn  i (xs (i + 1)) hi5 rfl hb1 hP hD hS hl (fun  H locs ls hP hD hS hl => W.widen (k := c0 + 1) (n := s0 + 6) (by omega) (by omega) (hk H locs ls (INV_of mo ki pr df co bi g9 lr bf nx hv v0 k0 v1 k1 of ss hi sl tx ne (nI 1) kn ke le sp wr si on tw dn k o (eqv_rfl _) hP hD hS hl ⟨hM, hKO, hmo, hdf, htx, hle, hnx, hkn, hHR, hSL⟩)))
