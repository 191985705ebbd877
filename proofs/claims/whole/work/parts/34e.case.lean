set_option maxHeartbeats 4000000 in
set_option maxRecDepth 100000 in
theorem lwc_27 {pg : Program} {l : Launch} {ev : Env} {s : State} {m : MethodId} {below : List Frame} {meth : Method} {c : Code} {Q : State → Prop} {G : GT} {bq L : Nat} {xs : Nat → Int32} (hLK : LK pg l s m meth c bq L xs G) (c0 s0 : Nat) (hroom : c0 + 1 ≤ 601024 ∧ s0 + 6 ≤ 7293034) {a : Nat → Nat} {oa mh m1 m2 m3 m4 m5 : Nat} (i : Nat) (hi5 : i + 5 ≤ L) {H : Heap} {locs : List Loc} {ls : Array Slot} (hI : INV G a oa mh m1 m2 m3 m4 m5 bq s i H locs ls)
    (hk : ∀ (H : Heap) (locs : List Loc) (ls : Array Slot), INV G a oa mh m1 m2 m3 m4 m5 bq s i H locs ls → W pg l ev room_1 s m #[Value.ref bq] below meth c H locs (c0 + 1) (s0 + 6) Q (F0 m 1768 ls [])) :
    W pg l ev room_1 s m #[Value.ref bq] below meth c H locs c0 s0 Q (F0 m 1516 ls []) := by
  obtain ⟨mo, ki, pr, df, co, bi, g9, lr, bf, nx, hv, v0, k0, v1, k1, of, ss, hi, sl, tx, ne, th, kn, ke, le, sp, wr, si, on, tw, dn, k, o, hP, hD, hS, hl, hR⟩ := hI
  obtain ⟨hM, hKO, hmo, hdf, htx, hle, hnx, hkn, hHR, hSL⟩ := hR
  have hd := MR_d hM
  have ht := MR_t hM
  have hg := MR_g hM
  have g : GV (vOf ss k o) ss := ⟨k, o, rfl, hM, hKO⟩
  exact lw_27_ok hLK c0 s0 hroom a (vOf ss k o) mo ki pr df co bi g9 lr bf tx le nx kn hv v0 k0 v1 k1 oa of mh m1 m2 m3 m4 m5 ss hi sl tx ne th kn ke le sp wr si on tw dn  i  hi5 rfl hP hD hS hl (fun  H locs ls hP hD hS hl => W.widen (k := c0 + 1) (n := s0 + 6) (by omega) (by omega) (hk H locs ls (INV_of mo ki pr df co bi g9 lr bf nx hv v0 k0 v1 k1 of ss hi sl tx ne (nI 0) kn ke 0 sp wr si on tw dn k o (eqv_rfl _) hP hD hS hl ⟨hM, hKO, hmo, hdf, htx, (Nat.zero_le _), hnx, hkn, hHR, hSL⟩)))

set_option maxHeartbeats 4000000 in
set_option maxRecDepth 100000 in
theorem lwc_28 {pg : Program} {l : Launch} {ev : Env} {s : State} {m : MethodId} {below : List Frame} {meth : Method} {c : Code} {Q : State → Prop} {G : GT} {bq L : Nat} {xs : Nat → Int32} (hLK : LK pg l s m meth c bq L xs G) (c0 s0 : Nat) (hroom : c0 + 1 ≤ 601024 ∧ s0 + 6 ≤ 7293034) {a : Nat → Nat} {oa mh m1 m2 m3 m4 m5 : Nat} (i : Nat) (hi5 : i + 5 ≤ L) {H : Heap} {locs : List Loc} {ls : Array Slot} (hI : INV G a oa mh m1 m2 m3 m4 m5 bq s i H locs ls)
    (hk : ∀ (H : Heap) (locs : List Loc) (ls : Array Slot), INV G a oa mh m1 m2 m3 m4 m5 bq s i H locs ls → W pg l ev room_1 s m #[Value.ref bq] below meth c H locs (c0 + 1) (s0 + 6) Q (F0 m 1768 ls [])) :
    W pg l ev room_1 s m #[Value.ref bq] below meth c H locs c0 s0 Q (F0 m 1529 ls []) := by
  obtain ⟨mo, ki, pr, df, co, bi, g9, lr, bf, nx, hv, v0, k0, v1, k1, of, ss, hi, sl, tx, ne, th, kn, ke, le, sp, wr, si, on, tw, dn, k, o, hP, hD, hS, hl, hR⟩ := hI
  obtain ⟨hM, hKO, hmo, hdf, htx, hle, hnx, hkn, hHR, hSL⟩ := hR
  have hd := MR_d hM
  have ht := MR_t hM
  have hg := MR_g hM
  have g : GV (vOf ss k o) ss := ⟨k, o, rfl, hM, hKO⟩
  exact lw_28_ok hLK c0 s0 hroom a (vOf ss k o) mo ki pr df co bi g9 lr bf tx le nx kn hv v0 k0 v1 k1 oa of mh m1 m2 m3 m4 m5 ss hi sl tx ne th kn ke le sp wr si on tw dn  i  hi5 rfl hP hD hS hl (fun  H locs ls hP hD hS hl => W.widen (k := c0 + 1) (n := s0 + 6) (by omega) (by omega) (hk H locs ls (INV_of mo ki pr df co bi g9 lr bf nx hv v0 k0 v1 k1 of ss hi sl tx ne (nI 0) kn ke le sp wr si on tw dn k o (eqv_rfl _) hP hD hS hl ⟨hM, hKO, hmo, hdf, htx, hle, hnx, hkn, hHR, hSL⟩)))

set_option maxHeartbeats 4000000 in
set_option maxRecDepth 100000 in
theorem lwc_29 {pg : Program} {l : Launch} {ev : Env} {s : State} {m : MethodId} {below : List Frame} {meth : Method} {c : Code} {Q : State → Prop} {G : GT} {bq L : Nat} {xs : Nat → Int32} (hLK : LK pg l s m meth c bq L xs G) (c0 s0 : Nat) (hroom : c0 + 1 ≤ 601024 ∧ s0 + 6 ≤ 7293034) {a : Nat → Nat} {oa mh m1 m2 m3 m4 m5 : Nat} (i : Nat) (hi5 : i + 5 ≤ L) {H : Heap} {locs : List Loc} {ls : Array Slot} (hI : INV G a oa mh m1 m2 m3 m4 m5 bq s i H locs ls)
    (hk : ∀ (H : Heap) (locs : List Loc) (ls : Array Slot), INV G a oa mh m1 m2 m3 m4 m5 bq s i H locs ls → W pg l ev room_1 s m #[Value.ref bq] below meth c H locs (c0 + 1) (s0 + 6) Q (F0 m 1768 ls [])) :
    W pg l ev room_1 s m #[Value.ref bq] below meth c H locs c0 s0 Q (F0 m 1542 ls []) := by
  obtain ⟨mo, ki, pr, df, co, bi, g9, lr, bf, nx, hv, v0, k0, v1, k1, of, ss, hi, sl, tx, ne, th, kn, ke, le, sp, wr, si, on, tw, dn, k, o, hP, hD, hS, hl, hR⟩ := hI
  obtain ⟨hM, hKO, hmo, hdf, htx, hle, hnx, hkn, hHR, hSL⟩ := hR
  have hd := MR_d hM
  have ht := MR_t hM
  have hg := MR_g hM
  have g : GV (vOf ss k o) ss := ⟨k, o, rfl, hM, hKO⟩
  exact lw_29_ok hLK c0 s0 hroom a (vOf ss k o) mo ki pr df co bi g9 lr bf tx le nx kn hv v0 k0 v1 k1 oa of mh m1 m2 m3 m4 m5 ss hi sl tx ne th kn ke le sp wr si on tw dn  i  hi5 htx hle htx hle rfl hP hD hS hl (fun u_1 H locs ls hP hD hS hl => W.widen (k := c0 + 1) (n := s0 + 6) (by omega) (by omega) (hk H locs ls (INV_of mo ki pr df co bi g9 lr bf nx hv v0 k0 v1 k1 of ss hi sl tx ne (nI 0) kn ke le (nI u_1.2.1) (nI u_1.1) u_1.2.2.1 u_1.2.2.2.1 u_1.2.2.2.2 (nI 0) k o (eqv_rfl _) hP hD hS hl ⟨hM, hKO, hmo, hdf, htx, hle, hnx, hkn, hHR, hSL⟩)))

set_option maxHeartbeats 4000000 in
set_option maxRecDepth 100000 in
theorem lwc_30 {pg : Program} {l : Launch} {ev : Env} {s : State} {m : MethodId} {below : List Frame} {meth : Method} {c : Code} {Q : State → Prop} {G : GT} {bq L : Nat} {xs : Nat → Int32} (hLK : LK pg l s m meth c bq L xs G) (c0 s0 : Nat) (hroom : c0 + 1 ≤ 601024 ∧ s0 + 6 ≤ 7293034) {a : Nat → Nat} {oa mh m1 m2 m3 m4 m5 : Nat} (i : Nat) (hi5 : i + 5 ≤ L) {H : Heap} {locs : List Loc} {ls : Array Slot} (hI : INV G a oa mh m1 m2 m3 m4 m5 bq s i H locs ls)
    (hk : ∀ (H : Heap) (locs : List Loc) (ls : Array Slot), INV G a oa mh m1 m2 m3 m4 m5 bq s i H locs ls → W pg l ev room_1 s m #[Value.ref bq] below meth c H locs (c0 + 1) (s0 + 6) Q (F0 m 1768 ls [])) :
    W pg l ev room_1 s m #[Value.ref bq] below meth c H locs c0 s0 Q (F0 m 1555 ls []) := by
  obtain ⟨mo, ki, pr, df, co, bi, g9, lr, bf, nx, hv, v0, k0, v1, k1, of, ss, hi, sl, tx, ne, th, kn, ke, le, sp, wr, si, on, tw, dn, k, o, hP, hD, hS, hl, hR⟩ := hI
  obtain ⟨hM, hKO, hmo, hdf, htx, hle, hnx, hkn, hHR, hSL⟩ := hR
  have hd := MR_d hM
  have ht := MR_t hM
  have hg := MR_g hM
  have g : GV (vOf ss k o) ss := ⟨k, o, rfl, hM, hKO⟩
  by_cases hok : FE tx le = -1
  · exact lw_30_ok hLK c0 s0 hroom a (vOf ss k o) mo ki pr df co bi g9 lr bf tx le nx kn hv v0 k0 v1 k1 oa of mh m1 m2 m3 m4 m5 ss hi sl tx ne th kn ke le sp wr si on tw dn  i k o hi5 hnx hkn htx hle rfl hM hKO hdf hmo hok htx hle hkn hok rfl hP hD hS hl (fun u_1 u_4 H locs ls hq0 hP hD hS hl => W.widen (k := c0 + 1) (n := s0 + 6) (by omega) (by omega) (hk H locs ls (INV_of u_1.2.2.2.1 u_1.2.2.2.2.1 u_1.2.2.2.2.2.1 u_1.2.2.2.2.2.2.1 u_1.2.2.2.2.2.2.2.1 u_1.2.2.2.2.2.2.2.2.1 g9 lr u_1.2.2.2.2.2.2.2.2.2 ((nx + 1) % 6) (va_up hv nx (vOf ss k o)) v0 k0 v1 k1 (vp_updL of 0 ((nI ((rC tx le (le + 1) 0 ss 0).2)).toInt64)) ((rC tx le (le + 1) 0 ss 0).1) (recH hi ss kn) sl tx u_4.1 (nI 0) (min (kn + 1) 6) ke 0 (nI u_4.2.1) (nI 0) u_4.2.2.1 u_4.2.2.2.1 u_4.2.2.2.2 (nI ((rC tx le (le + 1) 0 ss 0).2)) u_1.2.1 u_1.2.2.1 (eqv_of hq0.1) hP hD hS hl ⟨(MR_rC _ _ _ _ hM), hq0.2.1, hq0.2.2.1, hq0.2.2.2, htx, (Nat.zero_le _), (Nat.mod_lt _ (by omega)), (Nat.min_le_right _ _), (HR_rec hnx hkn hHR g), hSL⟩)))
  · exact lw_30_x1 hLK c0 s0 hroom a (vOf ss k o) mo ki pr df co bi g9 lr bf tx le nx kn hv v0 k0 v1 k1 oa of mh m1 m2 m3 m4 m5 ss hi sl tx ne th kn ke le sp wr si on tw dn  i  hi5 htx hle hok htx hle hok hP hD hS hl (fun u_4 H locs ls hP hD hS hl => W.widen (k := c0 + 1) (n := s0 + 6) (by omega) (by omega) (hk H locs ls (INV_of mo ki pr df co bi g9 lr bf nx hv v0 k0 v1 k1 of ss hi sl tx ne (nI 1) kn ke le (nI u_4.2.1) (nI u_4.1) u_4.2.2.1 u_4.2.2.2.1 u_4.2.2.2.2 (nI 0) k o (eqv_rfl _) hP hD hS hl ⟨hM, hKO, hmo, hdf, htx, hle, hnx, hkn, hHR, hSL⟩)))

set_option maxHeartbeats 4000000 in
set_option maxRecDepth 100000 in
theorem lwc_31 {pg : Program} {l : Launch} {ev : Env} {s : State} {m : MethodId} {below : List Frame} {meth : Method} {c : Code} {Q : State → Prop} {G : GT} {bq L : Nat} {xs : Nat → Int32} (hLK : LK pg l s m meth c bq L xs G) (c0 s0 : Nat) (hroom : c0 + 1 ≤ 601024 ∧ s0 + 6 ≤ 7293034) {a : Nat → Nat} {oa mh m1 m2 m3 m4 m5 : Nat} (i : Nat) (hi5 : i + 5 ≤ L) {H : Heap} {locs : List Loc} {ls : Array Slot} (hI : INV G a oa mh m1 m2 m3 m4 m5 bq s i H locs ls)
    (hk : ∀ (H : Heap) (locs : List Loc) (ls : Array Slot), INV G a oa mh m1 m2 m3 m4 m5 bq s i H locs ls → W pg l ev room_1 s m #[Value.ref bq] below meth c H locs (c0 + 1) (s0 + 6) Q (F0 m 1768 ls [])) :
    W pg l ev room_1 s m #[Value.ref bq] below meth c H locs c0 s0 Q (F0 m 1599 ls []) := by
  obtain ⟨mo, ki, pr, df, co, bi, g9, lr, bf, nx, hv, v0, k0, v1, k1, of, ss, hi, sl, tx, ne, th, kn, ke, le, sp, wr, si, on, tw, dn, k, o, hP, hD, hS, hl, hR⟩ := hI
  obtain ⟨hM, hKO, hmo, hdf, htx, hle, hnx, hkn, hHR, hSL⟩ := hR
  have hd := MR_d hM
  have ht := MR_t hM
  have hg := MR_g hM
  have g : GV (vOf ss k o) ss := ⟨k, o, rfl, hM, hKO⟩
  by_cases hc : kn = 0
  · exact lw_31_x1 hLK c0 s0 hroom a (vOf ss k o) mo ki pr df co bi g9 lr bf tx le nx kn hv v0 k0 v1 k1 oa of mh m1 m2 m3 m4 m5 ss hi sl tx ne th kn ke le sp wr si on tw dn  i  hi5 hc hc hP hD hS hl (fun  H locs ls hP hD hS hl => W.widen (k := c0 + 1) (n := s0 + 6) (by omega) (by omega) (hk H locs ls (INV_of mo ki pr df co bi g9 lr bf nx hv v0 k0 v1 k1 of ss hi sl tx ne (nI 1) kn ke le sp wr si on tw dn k o (eqv_rfl _) hP hD hS hl ⟨hM, hKO, hmo, hdf, htx, hle, hnx, hkn, hHR, hSL⟩)))
  · obtain ⟨hH1, g1⟩ := HR_undo hnx ⟨by omega, hkn⟩ hHR
    obtain ⟨k', o', e0, hM', hKO'⟩ := GV_ag (cpS_ag ss hi (kn - 1)) g1
    exact lw_31_ok hLK c0 s0 hroom a (vOf ss k o) mo ki pr df co bi g9 lr bf tx le nx kn hv v0 k0 v1 k1 oa of mh m1 m2 m3 m4 m5 ss hi sl tx ne th kn ke le sp wr si on tw dn  i  hi5 hnx ⟨by omega, hkn⟩ ⟨by omega, hkn⟩ rfl hP hD hS hl (fun  H locs ls hP hD hS hl => W.widen (k := c0 + 1) (n := s0 + 6) (by omega) (by omega) (hk H locs ls (INV_of mo ki pr df co bi g9 lr bf ((nx + 6 - 1) % 6) hv v0 k0 v1 k1 (vp_updL of 0 ((nI (kn - 1)).toInt64)) (cpS ss hi (205 * (kn - 1)) 205) hi sl tx ne (nI 0) (kn - 1) ke le sp wr si on tw dn k' o' (eqv_of e0) hP hD hS hl ⟨hM', hKO', hmo, hdf, htx, hle, (Nat.mod_lt _ (by omega)), (by omega), hH1, hSL⟩)))

set_option maxHeartbeats 4000000 in
set_option maxRecDepth 100000 in
theorem lwc_32 {pg : Program} {l : Launch} {ev : Env} {s : State} {m : MethodId} {below : List Frame} {meth : Method} {c : Code} {Q : State → Prop} {G : GT} {bq L : Nat} {xs : Nat → Int32} (hLK : LK pg l s m meth c bq L xs G) (c0 s0 : Nat) (hroom : c0 + 1 ≤ 601024 ∧ s0 + 6 ≤ 7293034) {a : Nat → Nat} {oa mh m1 m2 m3 m4 m5 : Nat} (i : Nat) (hi5 : i + 5 ≤ L) {H : Heap} {locs : List Loc} {ls : Array Slot} (hI : INV G a oa mh m1 m2 m3 m4 m5 bq s i H locs ls)
    (hk : ∀ (H : Heap) (locs : List Loc) (ls : Array Slot), INV G a oa mh m1 m2 m3 m4 m5 bq s i H locs ls → W pg l ev room_1 s m #[Value.ref bq] below meth c H locs (c0 + 1) (s0 + 6) Q (F0 m 1768 ls [])) :
    W pg l ev room_1 s m #[Value.ref bq] below meth c H locs c0 s0 Q (F0 m 1643 ls []) := by
  obtain ⟨mo, ki, pr, df, co, bi, g9, lr, bf, nx, hv, v0, k0, v1, k1, of, ss, hi, sl, tx, ne, th, kn, ke, le, sp, wr, si, on, tw, dn, k, o, hP, hD, hS, hl, hR⟩ := hI
  obtain ⟨hM, hKO, hmo, hdf, htx, hle, hnx, hkn, hHR, hSL⟩ := hR
  have hd := MR_d hM
  have ht := MR_t hM
  have hg := MR_g hM
  have g : GV (vOf ss k o) ss := ⟨k, o, rfl, hM, hKO⟩
  exact lw_32_ok hLK c0 s0 hroom a (vOf ss k o) mo ki pr df co bi g9 lr bf tx le nx kn hv v0 k0 v1 k1 oa of mh m1 m2 m3 m4 m5 ss hi sl tx ne th kn ke le sp wr si on tw dn  i  hi5 rfl hP hD hS hl (fun  H locs ls hP hD hS hl => W.widen (k := c0 + 1) (n := s0 + 6) (by omega) (by omega) (hk H locs ls (INV_of mo ki pr df co bi g9 lr bf nx hv v0 k0 v1 k1 of ss hi sl tx ne (nI 0) kn ke le sp wr si on tw dn k o (eqv_rfl _) hP hD hS hl ⟨hM, hKO, hmo, hdf, htx, hle, hnx, hkn, hHR, hSL⟩)))

set_option maxHeartbeats 4000000 in
set_option maxRecDepth 100000 in
theorem lwc_33 {pg : Program} {l : Launch} {ev : Env} {s : State} {m : MethodId} {below : List Frame} {meth : Method} {c : Code} {Q : State → Prop} {G : GT} {bq L : Nat} {xs : Nat → Int32} (hLK : LK pg l s m meth c bq L xs G) (c0 s0 : Nat) (hroom : c0 + 1 ≤ 601024 ∧ s0 + 6 ≤ 7293034) {a : Nat → Nat} {oa mh m1 m2 m3 m4 m5 : Nat} (i : Nat) (hi5 : i + 5 ≤ L) {H : Heap} {locs : List Loc} {ls : Array Slot} (hI : INV G a oa mh m1 m2 m3 m4 m5 bq s i H locs ls)
    (hk : ∀ (H : Heap) (locs : List Loc) (ls : Array Slot), INV G a oa mh m1 m2 m3 m4 m5 bq s i H locs ls → W pg l ev room_1 s m #[Value.ref bq] below meth c H locs (c0 + 1) (s0 + 6) Q (F0 m 1768 ls [])) :
    W pg l ev room_1 s m #[Value.ref bq] below meth c H locs c0 s0 Q (F0 m 1656 ls []) := by
  obtain ⟨mo, ki, pr, df, co, bi, g9, lr, bf, nx, hv, v0, k0, v1, k1, of, ss, hi, sl, tx, ne, th, kn, ke, le, sp, wr, si, on, tw, dn, k, o, hP, hD, hS, hl, hR⟩ := hI
  obtain ⟨hM, hKO, hmo, hdf, htx, hle, hnx, hkn, hHR, hSL⟩ := hR
  have hd := MR_d hM
  have ht := MR_t hM
  have hg := MR_g hM
  have g : GV (vOf ss k o) ss := ⟨k, o, rfl, hM, hKO⟩
  obtain ⟨s1, s2, s3, s4, s5⟩ := id hSL
  rcases arg_n (xs (i + 1)) 2 with ⟨p, hp, e1⟩ | hb1
  · have hp : p < 2 := by omega
    rcases (show p = 0 ∨ p = 1 by omega) with rfl | rfl
    · exact lw_33_ok0 hLK c0 s0 hroom a (vOf ss k o) mo ki pr df co bi g9 lr bf tx le nx kn hv v0 k0 v1 k1 oa of mh m1 m2 m3 m4 m5 ss hi sl tx ne th kn ke le sp wr si on tw dn  i  hi5 e1 (by omega) (iN (by have := hM.2.2.2.1; omega)) hP hD hS hl (fun  H locs ls hP hD hS hl => W.widen (k := c0 + 1) (n := s0 + 6) (by omega) (by omega) (hk H locs ls (INV_of mo ki pr df co bi g9 lr bf nx hv (vOf ss k o) 1 v1 k1 (vp_updL of 0 ((nI ((vOf ss k o).2.2.2.2.2.2.2.1)).toInt64)) ss hi (cpH sl ss (205 * 0) 205) tx ne (nI 0) kn (ke ||| 1) le sp wr si on tw dn k o (eqv_rfl _) hP hD hS hl ⟨hM, hKO, hmo, hdf, htx, hle, hnx, hkn, hHR, (SL_s0 hSL g)⟩)))
    · exact lw_33_ok1 hLK c0 s0 hroom a (vOf ss k o) mo ki pr df co bi g9 lr bf tx le nx kn hv v0 k0 v1 k1 oa of mh m1 m2 m3 m4 m5 ss hi sl tx ne th kn ke le sp wr si on tw dn  i  hi5 e1 (by omega) (iN (by have := hM.2.2.2.1; omega)) hP hD hS hl (fun  H locs ls hP hD hS hl => W.widen (k := c0 + 1) (n := s0 + 6) (by omega) (by omega) (hk H locs ls (INV_of mo ki pr df co bi g9 lr bf nx hv v0 k0 (vOf ss k o) 1 (vp_updL of 0 ((nI ((vOf ss k o).2.2.2.2.2.2.2.1)).toInt64)) ss hi (cpH sl ss (205 * 1) 205) tx ne (nI 0) kn (ke ||| 2) le sp wr si on tw dn k o (eqv_rfl _) hP hD hS hl ⟨hM, hKO, hmo, hdf, htx, hle, hnx, hkn, hHR, (SL_s1 hSL g)⟩)))
  · exact lw_33_x1 hLK c0 s0 hroom a (vOf ss k o) mo ki pr df co bi g9 lr bf tx le nx kn hv v0 k0 v1 k1 oa of mh m1 m2 m3 m4 m5 ss hi sl tx ne th kn ke le sp wr si on tw dn  i (xs (i + 1)) hi5 rfl hb1 hP hD hS hl (fun  H locs ls hP hD hS hl => W.widen (k := c0 + 1) (n := s0 + 6) (by omega) (by omega) (hk H locs ls (INV_of mo ki pr df co bi g9 lr bf nx hv v0 k0 v1 k1 of ss hi sl tx ne (nI 1) kn ke le sp wr si on tw dn k o (eqv_rfl _) hP hD hS hl ⟨hM, hKO, hmo, hdf, htx, hle, hnx, hkn, hHR, hSL⟩)))

set_option maxHeartbeats 4000000 in
set_option maxRecDepth 100000 in
theorem lwc_34 {pg : Program} {l : Launch} {ev : Env} {s : State} {m : MethodId} {below : List Frame} {meth : Method} {c : Code} {Q : State → Prop} {G : GT} {bq L : Nat} {xs : Nat → Int32} (hLK : LK pg l s m meth c bq L xs G) (c0 s0 : Nat) (hroom : c0 + 1 ≤ 601024 ∧ s0 + 6 ≤ 7293034) {a : Nat → Nat} {oa mh m1 m2 m3 m4 m5 : Nat} (i : Nat) (hi5 : i + 5 ≤ L) {H : Heap} {locs : List Loc} {ls : Array Slot} (hI : INV G a oa mh m1 m2 m3 m4 m5 bq s i H locs ls)
    (hk : ∀ (H : Heap) (locs : List Loc) (ls : Array Slot), INV G a oa mh m1 m2 m3 m4 m5 bq s i H locs ls → W pg l ev room_1 s m #[Value.ref bq] below meth c H locs (c0 + 1) (s0 + 6) Q (F0 m 1768 ls [])) :
    W pg l ev room_1 s m #[Value.ref bq] below meth c H locs c0 s0 Q (F0 m 1712 ls []) := by
  obtain ⟨mo, ki, pr, df, co, bi, g9, lr, bf, nx, hv, v0, k0, v1, k1, of, ss, hi, sl, tx, ne, th, kn, ke, le, sp, wr, si, on, tw, dn, k, o, hP, hD, hS, hl, hR⟩ := hI
  obtain ⟨hM, hKO, hmo, hdf, htx, hle, hnx, hkn, hHR, hSL⟩ := hR
  have hd := MR_d hM
  have ht := MR_t hM
  have hg := MR_g hM
  have g : GV (vOf ss k o) ss := ⟨k, o, rfl, hM, hKO⟩
  obtain ⟨s1, s2, s3, s4, s5⟩ := id hSL
  rcases arg_n (xs (i + 1)) 2 with ⟨p, hp, e1⟩ | hb1
  · have hp : p < 2 := by omega
    rcases (show p = 0 ∨ p = 1 by omega) with rfl | rfl
    · by_cases hc : k0 = 1
      · obtain ⟨k', o', e0, hM', hKO'⟩ := GV_ag (cpS_ag ss sl 0) (s4 hc)
        exact lw_34_ok0 hLK c0 s0 hroom a (vOf ss k o) mo ki pr df co bi g9 lr bf tx le nx kn hv v0 k0 v1 k1 oa of mh m1 m2 m3 m4 m5 ss hi sl tx ne th kn ke le sp wr si on tw dn  i  hi5 e1 hnx hkn hc hkn (by omega) (by omega) (by rw [e0]; exact iN (by have := hM'.2.2.2.1; omega)) hP hD hS hl (fun  H locs ls hP hD hS hl => W.widen (k := c0 + 1) (n := s0 + 6) (by omega) (by omega) (hk H locs ls (INV_of mo ki pr df co bi g9 lr bf ((nx + 1) % 6) (va_up hv nx (vOf ss k o)) v0 k0 v1 k1 (vp_updL of 0 ((nI (v0.2.2.2.2.2.2.2.1)).toInt64)) (cpS ss sl (205 * 0) 205) (recH hi ss kn) sl tx ne (nI 0) (min (kn + 1) 6) ke le sp wr si on tw dn k' o' (eqv_of e0) hP hD hS hl ⟨hM', hKO', hmo, hdf, htx, hle, (Nat.mod_lt _ (by omega)), (Nat.min_le_right _ _), (HR_rec hnx hkn hHR g), hSL⟩)))
      · exact lw_34_x20 hLK c0 s0 hroom a (vOf ss k o) mo ki pr df co bi g9 lr bf tx le nx kn hv v0 k0 v1 k1 oa of mh m1 m2 m3 m4 m5 ss hi sl tx ne th kn ke le sp wr si on tw dn  i  hi5 e1 (by omega) (by omega) (by omega) hP hD hS hl (fun  H locs ls hP hD hS hl => W.widen (k := c0 + 1) (n := s0 + 6) (by omega) (by omega) (hk H locs ls (INV_of mo ki pr df co bi g9 lr bf nx hv v0 k0 v1 k1 of ss hi sl tx ne (nI 2) kn ke le sp wr si on tw dn k o (eqv_rfl _) hP hD hS hl ⟨hM, hKO, hmo, hdf, htx, hle, hnx, hkn, hHR, hSL⟩)))
    · by_cases hc : k1 = 1
      · obtain ⟨k', o', e0, hM', hKO'⟩ := GV_ag (cpS_ag ss sl 1) (s5 hc)
        exact lw_34_ok1 hLK c0 s0 hroom a (vOf ss k o) mo ki pr df co bi g9 lr bf tx le nx kn hv v0 k0 v1 k1 oa of mh m1 m2 m3 m4 m5 ss hi sl tx ne th kn ke le sp wr si on tw dn  i  hi5 e1 hnx hkn hc hkn (by omega) (by omega) (by rw [e0]; exact iN (by have := hM'.2.2.2.1; omega)) hP hD hS hl (fun  H locs ls hP hD hS hl => W.widen (k := c0 + 1) (n := s0 + 6) (by omega) (by omega) (hk H locs ls (INV_of mo ki pr df co bi g9 lr bf ((nx + 1) % 6) (va_up hv nx (vOf ss k o)) v0 k0 v1 k1 (vp_updL of 0 ((nI (v1.2.2.2.2.2.2.2.1)).toInt64)) (cpS ss sl (205 * 1) 205) (recH hi ss kn) sl tx ne (nI 0) (min (kn + 1) 6) ke le sp wr si on tw dn k' o' (eqv_of e0) hP hD hS hl ⟨hM', hKO', hmo, hdf, htx, hle, (Nat.mod_lt _ (by omega)), (Nat.min_le_right _ _), (HR_rec hnx hkn hHR g), hSL⟩)))
      · exact lw_34_x21 hLK c0 s0 hroom a (vOf ss k o) mo ki pr df co bi g9 lr bf tx le nx kn hv v0 k0 v1 k1 oa of mh m1 m2 m3 m4 m5 ss hi sl tx ne th kn ke le sp wr si on tw dn  i  hi5 e1 (by omega) (by omega) (by omega) hP hD hS hl (fun  H locs ls hP hD hS hl => W.widen (k := c0 + 1) (n := s0 + 6) (by omega) (by omega) (hk H locs ls (INV_of mo ki pr df co bi g9 lr bf nx hv v0 k0 v1 k1 of ss hi sl tx ne (nI 2) kn ke le sp wr si on tw dn k o (eqv_rfl _) hP hD hS hl ⟨hM, hKO, hmo, hdf, htx, hle, hnx, hkn, hHR, hSL⟩)))
  · exact lw_34_x1 hLK c0 s0 hroom a (vOf ss k o) mo ki pr df co bi g9 lr bf tx le nx kn hv v0 k0 v1 k1 oa of mh m1 m2 m3 m4 m5 ss hi sl tx ne th kn ke le sp wr si on tw dn  i (xs (i + 1)) hi5 rfl hb1 hP hD hS hl (fun  H locs ls hP hD hS hl => W.widen (k := c0 + 1) (n := s0 + 6) (by omega) (by omega) (hk H locs ls (INV_of mo ki pr df co bi g9 lr bf nx hv v0 k0 v1 k1 of ss hi sl tx ne (nI 1) kn ke le sp wr si on tw dn k o (eqv_rfl _) hP hD hS hl ⟨hM, hKO, hmo, hdf, htx, hle, hnx, hkn, hHR, hSL⟩)))
