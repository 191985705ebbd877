set_option maxHeartbeats 4000000 in
set_option maxRecDepth 100000 in
theorem lwc_19 {pg : Program} {l : Launch} {ev : Env} {s : State} {m : MethodId} {below : List Frame} {meth : Method} {c : Code} {Q : State → Prop} {G : GT} {bq L : Nat} {xs : Nat → Int32} (hLK : LK pg l s m meth c bq L xs G) (c0 s0 : Nat) (hroom : c0 + 1 ≤ 601024 ∧ s0 + 6 ≤ 7293034) {a : Nat → Nat} {oa mh m1 m2 m3 m4 m5 : Nat} (i : Nat) (hi5 : i + 5 ≤ L) {H : Heap} {locs : List Loc} {ls : Array Slot} (hI : INV G a oa mh m1 m2 m3 m4 m5 bq s i H locs ls)
    (hk : ∀ (H : Heap) (locs : List Loc) (ls : Array Slot), INV G a oa mh m1 m2 m3 m4 m5 bq s i H locs ls → W pg l ev room_1 s m #[Value.ref bq] below meth c H locs (c0 + 1) (s0 + 6) Q (F0 m 1768 ls [])) :
    W pg l ev room_1 s m #[Value.ref bq] below meth c H locs c0 s0 Q (F0 m 1251 ls []) := by
  obtain ⟨mo, ki, pr, df, co, bi, g9, lr, bf, nx, hv, v0, k0, v1, k1, of, ss, hi, sl, tx, ne, th, kn, ke, le, sp, wr, si, on, tw, dn, k, o, hP, hD, hS, hl, hR⟩ := hI
  obtain ⟨hM, hKO, hmo, hdf, htx, hle, hnx, hkn, hHR, hSL⟩ := hR
  have hd := MR_d hM
  have ht := MR_t hM
  have hg := MR_g hM
  have g : GV (vOf ss k o) ss := ⟨k, o, rfl, hM, hKO⟩
  by_cases hkey : (ss 194).toNat % (ss 193).toNat = 0
  · exact lw_19_k hLK c0 s0 hroom a (vOf ss k o) mo ki pr df co bi g9 lr bf tx le nx kn hv v0 k0 v1 k1 oa of mh m1 m2 m3 m4 m5 ss hi sl tx ne th kn ke le sp wr si on tw dn  i  hi5 (vo_kd hM) (vo_pi hM) hkey hM hkey rfl hP hD hS hl (fun  H locs ls hP hD hS hl => W.widen (k := c0 + 1) (n := s0 + 6) (by omega) (by omega) (hk H locs ls (INV_of mo (fzK ki 4) pr df (iI (-1)) 264 g9 lr bf nx hv v0 k0 v1 k1 of ss hi sl tx ne (nI 0) kn ke le sp wr si on tw dn k o (eqv_rfl _) hP hD hS hl ⟨hM, hKO, hmo, hdf, htx, hle, hnx, hkn, hHR, hSL⟩)))
  · exact lw_19_n hLK c0 s0 hroom a (vOf ss k o) mo ki pr df co bi g9 lr bf tx le nx kn hv v0 k0 v1 k1 oa of mh m1 m2 m3 m4 m5 ss hi sl tx ne th kn ke le sp wr si on tw dn  i  hi5 hd ht hdf hmo (vo_kd hM) (vo_pi hM) hkey (vo_bu hM) hM hkey rfl hP hD hS hl (fun  H locs ls hP hD hS hl => W.widen (k := c0 + 1) (n := s0 + 6) (by omega) (by omega) (hk H locs ls (INV_of (BEST (vOf ss k o).1 (vOf ss k o).2.1) (knN (vOf ss k o).1 (vOf ss k o).2.1 (vOf ss k o).2.2.2.2.2.1) (pN (vOf ss k o).1 (vOf ss k o).2.1) (dN (vOf ss k o).1 (vOf ss k o).2.1) (nI (COM (vOf ss k o).1 (vOf ss k o).2.1 (vOf ss k o).2.2.2.2.2.1)) (ABM (vOf ss k o).1 (vOf ss k o).2.1 (COM (vOf ss k o).1 (vOf ss k o).2.1 (vOf ss k o).2.2.2.2.2.1) 4) g9 lr bf nx hv v0 k0 v1 k1 of ss hi sl tx ne (nI 0) kn ke le sp wr si on tw dn k o (eqv_rfl _) hP hD hS hl ⟨hM, hKO, (BEST_M _ _), (dN_D hd ht), htx, hle, hnx, hkn, hHR, hSL⟩)))

set_option maxHeartbeats 4000000 in
set_option maxRecDepth 100000 in
theorem lwc_20 {pg : Program} {l : Launch} {ev : Env} {s : State} {m : MethodId} {below : List Frame} {meth : Method} {c : Code} {Q : State → Prop} {G : GT} {bq L : Nat} {xs : Nat → Int32} (hLK : LK pg l s m meth c bq L xs G) (c0 s0 : Nat) (hroom : c0 + 1 ≤ 601024 ∧ s0 + 6 ≤ 7293034) {a : Nat → Nat} {oa mh m1 m2 m3 m4 m5 : Nat} (i : Nat) (hi5 : i + 5 ≤ L) {H : Heap} {locs : List Loc} {ls : Array Slot} (hI : INV G a oa mh m1 m2 m3 m4 m5 bq s i H locs ls)
    (hk : ∀ (H : Heap) (locs : List Loc) (ls : Array Slot), INV G a oa mh m1 m2 m3 m4 m5 bq s i H locs ls → W pg l ev room_1 s m #[Value.ref bq] below meth c H locs (c0 + 1) (s0 + 6) Q (F0 m 1768 ls [])) :
    W pg l ev room_1 s m #[Value.ref bq] below meth c H locs c0 s0 Q (F0 m 1264 ls []) := by
  obtain ⟨mo, ki, pr, df, co, bi, g9, lr, bf, nx, hv, v0, k0, v1, k1, of, ss, hi, sl, tx, ne, th, kn, ke, le, sp, wr, si, on, tw, dn, k, o, hP, hD, hS, hl, hR⟩ := hI
  obtain ⟨hM, hKO, hmo, hdf, htx, hle, hnx, hkn, hHR, hSL⟩ := hR
  have hd := MR_d hM
  have ht := MR_t hM
  have hg := MR_g hM
  have g : GV (vOf ss k o) ss := ⟨k, o, rfl, hM, hKO⟩
  by_cases hkey : (ss 194).toNat % (ss 193).toNat = 0
  · exact lw_20_k hLK c0 s0 hroom a (vOf ss k o) mo ki pr df co bi g9 lr bf tx le nx kn hv v0 k0 v1 k1 oa of mh m1 m2 m3 m4 m5 ss hi sl tx ne th kn ke le sp wr si on tw dn  i  hi5 (vo_kd hM) (vo_pi hM) hkey hM hkey rfl hP hD hS hl (fun  H locs ls hP hD hS hl => W.widen (k := c0 + 1) (n := s0 + 6) (by omega) (by omega) (hk H locs ls (INV_of mo (fzK ki 4) pr df (iI (-1)) 264 g9 lr bf nx hv v0 k0 v1 k1 of ss hi sl tx ne (nI 0) kn ke le sp wr si on tw dn k o (eqv_rfl _) hP hD hS hl ⟨hM, hKO, hmo, hdf, htx, hle, hnx, hkn, hHR, hSL⟩)))
  · exact lw_20_n hLK c0 s0 hroom a (vOf ss k o) mo ki pr df co bi g9 lr bf tx le nx kn hv v0 k0 v1 k1 oa of mh m1 m2 m3 m4 m5 ss hi sl tx ne th kn ke le sp wr si on tw dn  i  hi5 hd ht hdf hmo (vo_kd hM) (vo_pi hM) hkey (vo_bu hM) hM hkey rfl hP hD hS hl (fun  H locs ls hP hD hS hl => W.widen (k := c0 + 1) (n := s0 + 6) (by omega) (by omega) (hk H locs ls (INV_of (BEST (vOf ss k o).1 (vOf ss k o).2.1) (knN (vOf ss k o).1 (vOf ss k o).2.1 (vOf ss k o).2.2.2.2.2.1) (pN (vOf ss k o).1 (vOf ss k o).2.1) (dN (vOf ss k o).1 (vOf ss k o).2.1) (nI (COM (vOf ss k o).1 (vOf ss k o).2.1 (vOf ss k o).2.2.2.2.2.1)) (ABM (vOf ss k o).1 (vOf ss k o).2.1 (COM (vOf ss k o).1 (vOf ss k o).2.1 (vOf ss k o).2.2.2.2.2.1) 4) g9 lr bf nx hv v0 k0 v1 k1 of ss hi sl tx ne (nI 0) kn ke le sp wr si on tw dn k o (eqv_rfl _) hP hD hS hl ⟨hM, hKO, (BEST_M _ _), (dN_D hd ht), htx, hle, hnx, hkn, hHR, hSL⟩)))

set_option maxHeartbeats 4000000 in
set_option maxRecDepth 100000 in
theorem lwc_21 {pg : Program} {l : Launch} {ev : Env} {s : State} {m : MethodId} {below : List Frame} {meth : Method} {c : Code} {Q : State → Prop} {G : GT} {bq L : Nat} {xs : Nat → Int32} (hLK : LK pg l s m meth c bq L xs G) (c0 s0 : Nat) (hroom : c0 + 1 ≤ 601024 ∧ s0 + 6 ≤ 7293034) {a : Nat → Nat} {oa mh m1 m2 m3 m4 m5 : Nat} (i : Nat) (hi5 : i + 5 ≤ L) {H : Heap} {locs : List Loc} {ls : Array Slot} (hI : INV G a oa mh m1 m2 m3 m4 m5 bq s i H locs ls)
    (hk : ∀ (H : Heap) (locs : List Loc) (ls : Array Slot), INV G a oa mh m1 m2 m3 m4 m5 bq s i H locs ls → W pg l ev room_1 s m #[Value.ref bq] below meth c H locs (c0 + 1) (s0 + 6) Q (F0 m 1768 ls [])) :
    W pg l ev room_1 s m #[Value.ref bq] below meth c H locs c0 s0 Q (F0 m 1277 ls []) := by
  obtain ⟨mo, ki, pr, df, co, bi, g9, lr, bf, nx, hv, v0, k0, v1, k1, of, ss, hi, sl, tx, ne, th, kn, ke, le, sp, wr, si, on, tw, dn, k, o, hP, hD, hS, hl, hR⟩ := hI
  obtain ⟨hM, hKO, hmo, hdf, htx, hle, hnx, hkn, hHR, hSL⟩ := hR
  have hd := MR_d hM
  have ht := MR_t hM
  have hg := MR_g hM
  have g : GV (vOf ss k o) ss := ⟨k, o, rfl, hM, hKO⟩
  exact lw_21_ok hLK c0 s0 hroom a (vOf ss k o) mo ki pr df co bi g9 lr bf tx le nx kn hv v0 k0 v1 k1 oa of mh m1 m2 m3 m4 m5 ss hi sl tx ne th kn ke le sp wr si on tw dn  i  hi5 (iN (by have := hM.2.2.2.1; omega)) hP hD hS hl (fun  H locs ls hP hD hS hl => W.widen (k := c0 + 1) (n := s0 + 6) (by omega) (by omega) (hk H locs ls (INV_of mo ki pr df co bi g9 lr bf nx hv v0 k0 v1 k1 of ss hi sl tx ne (nI 0) kn ke le sp wr si on tw dn k o (eqv_rfl _) hP hD hS hl ⟨hM, hKO, hmo, hdf, htx, hle, hnx, hkn, hHR, hSL⟩)))

set_option maxHeartbeats 4000000 in
set_option maxRecDepth 100000 in
theorem lwc_22 {pg : Program} {l : Launch} {ev : Env} {s : State} {m : MethodId} {below : List Frame} {meth : Method} {c : Code} {Q : State → Prop} {G : GT} {bq L : Nat} {xs : Nat → Int32} (hLK : LK pg l s m meth c bq L xs G) (c0 s0 : Nat) (hroom : c0 + 1 ≤ 601024 ∧ s0 + 6 ≤ 7293034) {a : Nat → Nat} {oa mh m1 m2 m3 m4 m5 : Nat} (i : Nat) (hi5 : i + 5 ≤ L) {H : Heap} {locs : List Loc} {ls : Array Slot} (hI : INV G a oa mh m1 m2 m3 m4 m5 bq s i H locs ls)
    (hk : ∀ (H : Heap) (locs : List Loc) (ls : Array Slot), INV G a oa mh m1 m2 m3 m4 m5 bq s i H locs ls → W pg l ev room_1 s m #[Value.ref bq] below meth c H locs (c0 + 1) (s0 + 6) Q (F0 m 1768 ls [])) :
    W pg l ev room_1 s m #[Value.ref bq] below meth c H locs c0 s0 Q (F0 m 1290 ls []) := by
  obtain ⟨mo, ki, pr, df, co, bi, g9, lr, bf, nx, hv, v0, k0, v1, k1, of, ss, hi, sl, tx, ne, th, kn, ke, le, sp, wr, si, on, tw, dn, k, o, hP, hD, hS, hl, hR⟩ := hI
  obtain ⟨hM, hKO, hmo, hdf, htx, hle, hnx, hkn, hHR, hSL⟩ := hR
  have hd := MR_d hM
  have ht := MR_t hM
  have hg := MR_g hM
  have g : GV (vOf ss k o) ss := ⟨k, o, rfl, hM, hKO⟩
  exact lw_22_ok hLK c0 s0 hroom a (vOf ss k o) mo ki pr df co bi g9 lr bf tx le nx kn hv v0 k0 v1 k1 oa of mh m1 m2 m3 m4 m5 ss hi sl tx ne th kn ke le sp wr si on tw dn  i  hi5 (iN (by have := hM.2.2.2.2.1; omega)) hP hD hS hl (fun  H locs ls hP hD hS hl => W.widen (k := c0 + 1) (n := s0 + 6) (by omega) (by omega) (hk H locs ls (INV_of mo ki pr df co bi g9 lr bf nx hv v0 k0 v1 k1 of ss hi sl tx ne (nI 0) kn ke le sp wr si on tw dn k o (eqv_rfl _) hP hD hS hl ⟨hM, hKO, hmo, hdf, htx, hle, hnx, hkn, hHR, hSL⟩)))

set_option maxHeartbeats 4000000 in
set_option maxRecDepth 100000 in
theorem lwc_23 {pg : Program} {l : Launch} {ev : Env} {s : State} {m : MethodId} {below : List Frame} {meth : Method} {c : Code} {Q : State → Prop} {G : GT} {bq L : Nat} {xs : Nat → Int32} (hLK : LK pg l s m meth c bq L xs G) (c0 s0 : Nat) (hroom : c0 + 1 ≤ 601024 ∧ s0 + 6 ≤ 7293034) {a : Nat → Nat} {oa mh m1 m2 m3 m4 m5 : Nat} (i : Nat) (hi5 : i + 5 ≤ L) {H : Heap} {locs : List Loc} {ls : Array Slot} (hI : INV G a oa mh m1 m2 m3 m4 m5 bq s i H locs ls)
    (hk : ∀ (H : Heap) (locs : List Loc) (ls : Array Slot), INV G a oa mh m1 m2 m3 m4 m5 bq s i H locs ls → W pg l ev room_1 s m #[Value.ref bq] below meth c H locs (c0 + 1) (s0 + 6) Q (F0 m 1768 ls [])) :
    W pg l ev room_1 s m #[Value.ref bq] below meth c H locs c0 s0 Q (F0 m 1303 ls []) := by
  obtain ⟨mo, ki, pr, df, co, bi, g9, lr, bf, nx, hv, v0, k0, v1, k1, of, ss, hi, sl, tx, ne, th, kn, ke, le, sp, wr, si, on, tw, dn, k, o, hP, hD, hS, hl, hR⟩ := hI
  obtain ⟨hM, hKO, hmo, hdf, htx, hle, hnx, hkn, hHR, hSL⟩ := hR
  have hd := MR_d hM
  have ht := MR_t hM
  have hg := MR_g hM
  have g : GV (vOf ss k o) ss := ⟨k, o, rfl, hM, hKO⟩
  exact lw_23_ok hLK c0 s0 hroom a (vOf ss k o) mo ki pr df co bi g9 lr bf tx le nx kn hv v0 k0 v1 k1 oa of mh m1 m2 m3 m4 m5 ss hi sl tx ne th kn ke le sp wr si on tw dn  i  hi5 (iN (by have := hM.2.2.2.2.2; omega)) hP hD hS hl (fun  H locs ls hP hD hS hl => W.widen (k := c0 + 1) (n := s0 + 6) (by omega) (by omega) (hk H locs ls (INV_of mo ki pr df co bi g9 lr bf nx hv v0 k0 v1 k1 of ss hi sl tx ne (nI 0) kn ke le sp wr si on tw dn k o (eqv_rfl _) hP hD hS hl ⟨hM, hKO, hmo, hdf, htx, hle, hnx, hkn, hHR, hSL⟩)))

set_option maxHeartbeats 4000000 in
set_option maxRecDepth 100000 in
theorem lwc_24 {pg : Program} {l : Launch} {ev : Env} {s : State} {m : MethodId} {below : List Frame} {meth : Method} {c : Code} {Q : State → Prop} {G : GT} {bq L : Nat} {xs : Nat → Int32} (hLK : LK pg l s m meth c bq L xs G) (c0 s0 : Nat) (hroom : c0 + 1 ≤ 601024 ∧ s0 + 6 ≤ 7293034) {a : Nat → Nat} {oa mh m1 m2 m3 m4 m5 : Nat} (i : Nat) (hi5 : i + 5 ≤ L) {H : Heap} {locs : List Loc} {ls : Array Slot} (hI : INV G a oa mh m1 m2 m3 m4 m5 bq s i H locs ls)
    (hk : ∀ (H : Heap) (locs : List Loc) (ls : Array Slot), INV G a oa mh m1 m2 m3 m4 m5 bq s i H locs ls → W pg l ev room_1 s m #[Value.ref bq] below meth c H locs (c0 + 1) (s0 + 6) Q (F0 m 1768 ls [])) :
    W pg l ev room_1 s m #[Value.ref bq] below meth c H locs c0 s0 Q (F0 m 1316 ls []) := by
  obtain ⟨mo, ki, pr, df, co, bi, g9, lr, bf, nx, hv, v0, k0, v1, k1, of, ss, hi, sl, tx, ne, th, kn, ke, le, sp, wr, si, on, tw, dn, k, o, hP, hD, hS, hl, hR⟩ := hI
  obtain ⟨hM, hKO, hmo, hdf, htx, hle, hnx, hkn, hHR, hSL⟩ := hR
  have hd := MR_d hM
  have ht := MR_t hM
  have hg := MR_g hM
  have g : GV (vOf ss k o) ss := ⟨k, o, rfl, hM, hKO⟩
  rcases arg_n (xs (i + 1)) 4 with ⟨p, hp, e1⟩ | hb1
  · have hp : p < 4 := by omega
    exact lw_24_ok hLK c0 s0 hroom a (vOf ss k o) mo ki pr df co bi g9 lr bf tx le nx kn hv v0 k0 v1 k1 oa of mh m1 m2 m3 m4 m5 ss hi sl tx ne th kn ke le sp wr si on tw dn  i p hi5 e1 hp (vo_kd hM) (vo_pi hM) (congrArg iI (lk_eq hM hKO hp)) hP hD hS hl (fun  H locs ls hP hD hS hl => W.widen (k := c0 + 1) (n := s0 + 6) (by omega) (by omega) (hk H locs ls (INV_of mo ki pr df co bi g9 lr bf nx hv v0 k0 v1 k1 (vp_updL of 0 ((iI (if (vOf ss k o).2.2.2.2.2.2.2.1 = 0 then -1 else ((vOf ss k o).2.2.2.1 p : Int))).toInt64)) ss hi sl tx ne (nI 0) kn ke le sp wr si on tw dn k o (eqv_rfl _) hP hD hS hl ⟨hM, hKO, hmo, hdf, htx, hle, hnx, hkn, hHR, hSL⟩)))
  · exact lw_24_x1 hLK c0 s0 hroom a (vOf ss k o) mo ki pr df co bi g9 lr bf tx le nx kn hv v0 k0 v1 k1 oa of mh m1 m2 m3 m4 m5 ss hi sl tx ne th kn ke le sp wr si on tw dn  i (xs (i + 1)) hi5 rfl hb1 hP hD hS hl (fun  H locs ls hP hD hS hl => W.widen (k := c0 + 1) (n := s0 + 6) (by omega) (by omega) (hk H locs ls (INV_of mo ki pr df co bi g9 lr bf nx hv v0 k0 v1 k1 of ss hi sl tx ne (nI 1) kn ke le sp wr si on tw dn k o (eqv_rfl _) hP hD hS hl ⟨hM, hKO, hmo, hdf, htx, hle, hnx, hkn, hHR, hSL⟩)))

set_option maxHeartbeats 4000000 in
set_option maxRecDepth 100000 in
theorem lwc_25 {pg : Program} {l : Launch} {ev : Env} {s : State} {m : MethodId} {below : List Frame} {meth : Method} {c : Code} {Q : State → Prop} {G : GT} {bq L : Nat} {xs : Nat → Int32} (hLK : LK pg l s m meth c bq L xs G) (c0 s0 : Nat) (hroom : c0 + 1 ≤ 601024 ∧ s0 + 6 ≤ 7293034) {a : Nat → Nat} {oa mh m1 m2 m3 m4 m5 : Nat} (i : Nat) (hi5 : i + 5 ≤ L) {H : Heap} {locs : List Loc} {ls : Array Slot} (hI : INV G a oa mh m1 m2 m3 m4 m5 bq s i H locs ls)
    (hk : ∀ (H : Heap) (locs : List Loc) (ls : Array Slot), INV G a oa mh m1 m2 m3 m4 m5 bq s i H locs ls → W pg l ev room_1 s m #[Value.ref bq] below meth c H locs (c0 + 1) (s0 + 6) Q (F0 m 1768 ls [])) :
    W pg l ev room_1 s m #[Value.ref bq] below meth c H locs c0 s0 Q (F0 m 1372 ls []) := by
  obtain ⟨mo, ki, pr, df, co, bi, g9, lr, bf, nx, hv, v0, k0, v1, k1, of, ss, hi, sl, tx, ne, th, kn, ke, le, sp, wr, si, on, tw, dn, k, o, hP, hD, hS, hl, hR⟩ := hI
  obtain ⟨hM, hKO, hmo, hdf, htx, hle, hnx, hkn, hHR, hSL⟩ := hR
  have hd := MR_d hM
  have ht := MR_t hM
  have hg := MR_g hM
  have g : GV (vOf ss k o) ss := ⟨k, o, rfl, hM, hKO⟩
  rcases arg_n (xs (i + 1)) 4 with ⟨p, hp, e1⟩ | hb1
  · have hp : p < 4 := by omega
    exact lw_25_ok hLK c0 s0 hroom a (vOf ss k o) mo ki pr df co bi g9 lr bf tx le nx kn hv v0 k0 v1 k1 oa of mh m1 m2 m3 m4 m5 ss hi sl tx ne th kn ke le sp wr si on tw dn  i p hi5 e1 hp (vo_kd hM) (vo_pi hM) (hKO.1 p) hM (congrArg iI (lm_eq hM hKO hp)) hP hD hS hl (fun  H locs ls hP hD hS hl => W.widen (k := c0 + 1) (n := s0 + 6) (by omega) (by omega) (hk H locs ls (INV_of mo ki pr df co bi g9 lr bf nx hv v0 k0 v1 k1 (vp_updL of 0 ((iI (if (vOf ss k o).2.2.2.2.2.2.2.1 = 0 ∨ (vOf ss k o).2.2.2.1 p = 0 then -1 else ((vOf ss k o).2.2.2.2.1 p : Int))).toInt64)) ss hi sl tx ne (nI 0) kn ke le sp wr si on tw dn k o (eqv_rfl _) hP hD hS hl ⟨hM, hKO, hmo, hdf, htx, hle, hnx, hkn, hHR, hSL⟩)))
  · exact lw_25_x1 hLK c0 s0 hroom a (vOf ss k o) mo ki pr df co bi g9 lr bf tx le nx kn hv v0 k0 v1 k1 oa of mh m1 m2 m3 m4 m5 ss hi sl tx ne th kn ke le sp wr si on tw dn  i (xs (i + 1)) hi5 rfl hb1 hP hD hS hl (fun  H locs ls hP hD hS hl => W.widen (k := c0 + 1) (n := s0 + 6) (by omega) (by omega) (hk H locs ls (INV_of mo ki pr df co bi g9 lr bf nx hv v0 k0 v1 k1 of ss hi sl tx ne (nI 1) kn ke le sp wr si on tw dn k o (eqv_rfl _) hP hD hS hl ⟨hM, hKO, hmo, hdf, htx, hle, hnx, hkn, hHR, hSL⟩)))

set_option maxHeartbeats 4000000 in
set_option maxRecDepth 100000 in
theorem lwc_26 {pg : Program} {l : Launch} {ev : Env} {s : State} {m : MethodId} {below : List Frame} {meth : Method} {c : Code} {Q : State → Prop} {G : GT} {bq L : Nat} {xs : Nat → Int32} (hLK : LK pg l s m meth c bq L xs G) (c0 s0 : Nat) (hroom : c0 + 1 ≤ 601024 ∧ s0 + 6 ≤ 7293034) {a : Nat → Nat} {oa mh m1 m2 m3 m4 m5 : Nat} (i : Nat) (hi5 : i + 5 ≤ L) {H : Heap} {locs : List Loc} {ls : Array Slot} (hI : INV G a oa mh m1 m2 m3 m4 m5 bq s i H locs ls)
    (hk : ∀ (H : Heap) (locs : List Loc) (ls : Array Slot), INV G a oa mh m1 m2 m3 m4 m5 bq s i H locs ls → W pg l ev room_1 s m #[Value.ref bq] below meth c H locs (c0 + 1) (s0 + 6) Q (F0 m 1768 ls [])) :
    W pg l ev room_1 s m #[Value.ref bq] below meth c H locs c0 s0 Q (F0 m 1428 ls []) := by
  obtain ⟨mo, ki, pr, df, co, bi, g9, lr, bf, nx, hv, v0, k0, v1, k1, of, ss, hi, sl, tx, ne, th, kn, ke, le, sp, wr, si, on, tw, dn, k, o, hP, hD, hS, hl, hR⟩ := hI
  obtain ⟨hM, hKO, hmo, hdf, htx, hle, hnx, hkn, hHR, hSL⟩ := hR
  have hd := MR_d hM
  have ht := MR_t hM
  have hg := MR_g hM
  have g : GV (vOf ss k o) ss := ⟨k, o, rfl, hM, hKO⟩
  obtain ⟨cu, hu, hac⟩ := wb_of (((xs (i + 1)).toInt64 <<< ((nI (32)).toInt64 &&& 63)) ||| ((xs (i + 2)).toInt64 &&& 4294967295))
  by_cases hcs : CS cu = 0
  · exact lw_26_x1 hLK c0 s0 hroom a (vOf ss k o) mo ki pr df co bi g9 lr bf tx le nx kn hv v0 k0 v1 k1 oa of mh m1 m2 m3 m4 m5 ss hi sl tx ne th kn ke le sp wr si on tw dn  i cu hi5 hu hcs hle hac hP hD hS hl (fun  H locs ls hP hD hS hl => W.widen (k := c0 + 1) (n := s0 + 6) (by omega) (by omega) (hk H locs ls (INV_of mo ki pr df co bi g9 lr bf nx hv v0 k0 v1 k1 of ss hi sl tx ne (nI 1) kn ke le sp wr si on tw dn k o (eqv_rfl _) hP hD hS hl ⟨hM, hKO, hmo, hdf, htx, hle, hnx, hkn, hHR, hSL⟩)))
  · by_cases hlk : le + CS cu ≤ 80
    · exact lw_26_ok hLK c0 s0 hroom a (vOf ss k o) mo ki pr df co bi g9 lr bf tx le nx kn hv v0 k0 v1 k1 oa of mh m1 m2 m3 m4 m5 ss hi sl tx ne th kn ke le sp wr si on tw dn  i cu hi5 hu hcs hlk hle hlk hac rfl hP hD hS hl (fun  H locs ls hP hD hS hl => W.widen (k := c0 + 1) (n := s0 + 6) (by omega) (by omega) (hk H locs ls (INV_of mo ki pr df co bi g9 lr bf nx hv v0 k0 v1 k1 (vp_updL of 0 ((nI (le + CS cu)).toInt64)) ss hi sl (adT tx le cu (CS cu) (CS cu)) ne (nI 0) kn ke (le + CS cu) sp wr si on tw dn k o (eqv_rfl _) hP hD hS hl ⟨hM, hKO, hmo, hdf, (adT_128 htx hcs _ (Nat.le_refl _)), hlk, hnx, hkn, hHR, hSL⟩)))
    · exact lw_26_x2 hLK c0 s0 hroom a (vOf ss k o) mo ki pr df co bi g9 lr bf tx le nx kn hv v0 k0 v1 k1 oa of mh m1 m2 m3 m4 m5 ss hi sl tx ne th kn ke le sp wr si on tw dn  i cu hi5 hu hcs hle (by omega) hle (by omega) hac hP hD hS hl (fun  H locs ls hP hD hS hl => W.widen (k := c0 + 1) (n := s0 + 6) (by omega) (by omega) (hk H locs ls (INV_of mo ki pr df co bi g9 lr bf nx hv v0 k0 v1 k1 of ss hi sl tx ne (nI 2) kn ke le sp wr si on tw dn k o (eqv_rfl _) hP hD hS hl ⟨hM, hKO, hmo, hdf, htx, hle, hnx, hkn, hHR, hSL⟩)))
