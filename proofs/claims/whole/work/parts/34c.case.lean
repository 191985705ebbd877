set_option maxHeartbeats 4000000 in
set_option maxRecDepth 100000 in
theorem lwc_9 {pg : Program} {l : Launch} {ev : Env} {s : State} {m : MethodId} {below : List Frame} {meth : Method} {c : Code} {Q : State → Prop} {G : GT} {bq L : Nat} {xs : Nat → Int32} (hLK : LK pg l s m meth c bq L xs G) (c0 s0 : Nat) (hroom : c0 + 1 ≤ 601024 ∧ s0 + 6 ≤ 7293034) {a : Nat → Nat} {oa mh m1 m2 m3 m4 m5 : Nat} (i : Nat) (hi5 : i + 5 ≤ L) {H : Heap} {locs : List Loc} {ls : Array Slot} (hI : INV G a oa mh m1 m2 m3 m4 m5 bq s i H locs ls)
    (hk : ∀ (H : Heap) (locs : List Loc) (ls : Array Slot), INV G a oa mh m1 m2 m3 m4 m5 bq s i H locs ls → W pg l ev room_1 s m #[Value.ref bq] below meth c H locs (c0 + 1) (s0 + 6) Q (F0 m 1768 ls [])) :
    W pg l ev room_1 s m #[Value.ref bq] below meth c H locs c0 s0 Q (F0 m 772 ls []) := by
  obtain ⟨mo, ki, pr, df, co, bi, g9, lr, bf, nx, hv, v0, k0, v1, k1, of, ss, hi, sl, tx, ne, th, kn, ke, le, sp, wr, si, on, tw, dn, k, o, hP, hD, hS, hl, hR⟩ := hI
  obtain ⟨hM, hKO, hmo, hdf, htx, hle, hnx, hkn, hHR, hSL⟩ := hR
  have hd := MR_d hM
  have ht := MR_t hM
  have hg := MR_g hM
  have g : GV (vOf ss k o) ss := ⟨k, o, rfl, hM, hKO⟩
  exact lw_9_ok hLK c0 s0 hroom a (vOf ss k o) mo ki pr df co bi g9 lr bf tx le nx kn hv v0 k0 v1 k1 oa of mh m1 m2 m3 m4 m5 ss hi sl tx ne th kn ke le sp wr si on tw dn  i  hi5 hd ht hg hM (congrArg iI er_eq) hP hD hS hl (fun  H locs ls hP hD hS hl => W.widen (k := c0 + 1) (n := s0 + 6) (by omega) (by omega) (hk H locs ls (INV_of mo ki pr df co bi g9 lr bf nx hv v0 k0 v1 k1 of ss hi sl tx ne (nI 0) kn ke le sp wr si on tw dn k o (eqv_rfl _) hP hD hS hl ⟨hM, hKO, hmo, hdf, htx, hle, hnx, hkn, hHR, hSL⟩)))

set_option maxHeartbeats 4000000 in
set_option maxRecDepth 100000 in
theorem lwc_10 {pg : Program} {l : Launch} {ev : Env} {s : State} {m : MethodId} {below : List Frame} {meth : Method} {c : Code} {Q : State → Prop} {G : GT} {bq L : Nat} {xs : Nat → Int32} (hLK : LK pg l s m meth c bq L xs G) (c0 s0 : Nat) (hroom : c0 + 1 ≤ 601024 ∧ s0 + 6 ≤ 7293034) {a : Nat → Nat} {oa mh m1 m2 m3 m4 m5 : Nat} (i : Nat) (hi5 : i + 5 ≤ L) {H : Heap} {locs : List Loc} {ls : Array Slot} (hI : INV G a oa mh m1 m2 m3 m4 m5 bq s i H locs ls)
    (hk : ∀ (H : Heap) (locs : List Loc) (ls : Array Slot), INV G a oa mh m1 m2 m3 m4 m5 bq s i H locs ls → W pg l ev room_1 s m #[Value.ref bq] below meth c H locs (c0 + 1) (s0 + 6) Q (F0 m 1768 ls [])) :
    W pg l ev room_1 s m #[Value.ref bq] below meth c H locs c0 s0 Q (F0 m 785 ls []) := by
  obtain ⟨mo, ki, pr, df, co, bi, g9, lr, bf, nx, hv, v0, k0, v1, k1, of, ss, hi, sl, tx, ne, th, kn, ke, le, sp, wr, si, on, tw, dn, k, o, hP, hD, hS, hl, hR⟩ := hI
  obtain ⟨hM, hKO, hmo, hdf, htx, hle, hnx, hkn, hHR, hSL⟩ := hR
  have hd := MR_d hM
  have ht := MR_t hM
  have hg := MR_g hM
  have g : GV (vOf ss k o) ss := ⟨k, o, rfl, hM, hKO⟩
  exact lw_10_ok hLK c0 s0 hroom a (vOf ss k o) mo ki pr df co bi g9 lr bf tx le nx kn hv v0 k0 v1 k1 oa of mh m1 m2 m3 m4 m5 ss hi sl tx ne th kn ke le sp wr si on tw dn  i  hi5 hd ht hg hM (congrArg iI dr_eq) hP hD hS hl (fun  H locs ls hP hD hS hl => W.widen (k := c0 + 1) (n := s0 + 6) (by omega) (by omega) (hk H locs ls (INV_of mo ki pr df co bi g9 lr bf nx hv v0 k0 v1 k1 of ss hi sl tx ne (nI 0) kn ke le sp wr si on tw dn k o (eqv_rfl _) hP hD hS hl ⟨hM, hKO, hmo, hdf, htx, hle, hnx, hkn, hHR, hSL⟩)))

set_option maxHeartbeats 4000000 in
set_option maxRecDepth 100000 in
theorem lwc_11 {pg : Program} {l : Launch} {ev : Env} {s : State} {m : MethodId} {below : List Frame} {meth : Method} {c : Code} {Q : State → Prop} {G : GT} {bq L : Nat} {xs : Nat → Int32} (hLK : LK pg l s m meth c bq L xs G) (c0 s0 : Nat) (hroom : c0 + 1 ≤ 601024 ∧ s0 + 6 ≤ 7293034) {a : Nat → Nat} {oa mh m1 m2 m3 m4 m5 : Nat} (i : Nat) (hi5 : i + 5 ≤ L) {H : Heap} {locs : List Loc} {ls : Array Slot} (hI : INV G a oa mh m1 m2 m3 m4 m5 bq s i H locs ls)
    (hk : ∀ (H : Heap) (locs : List Loc) (ls : Array Slot), INV G a oa mh m1 m2 m3 m4 m5 bq s i H locs ls → W pg l ev room_1 s m #[Value.ref bq] below meth c H locs (c0 + 1) (s0 + 6) Q (F0 m 1768 ls [])) :
    W pg l ev room_1 s m #[Value.ref bq] below meth c H locs c0 s0 Q (F0 m 798 ls []) := by
  obtain ⟨mo, ki, pr, df, co, bi, g9, lr, bf, nx, hv, v0, k0, v1, k1, of, ss, hi, sl, tx, ne, th, kn, ke, le, sp, wr, si, on, tw, dn, k, o, hP, hD, hS, hl, hR⟩ := hI
  obtain ⟨hM, hKO, hmo, hdf, htx, hle, hnx, hkn, hHR, hSL⟩ := hR
  have hd := MR_d hM
  have ht := MR_t hM
  have hg := MR_g hM
  have g : GV (vOf ss k o) ss := ⟨k, o, rfl, hM, hKO⟩
  rcases arg_n (xs (i + 1)) 4 with ⟨p, hp, e1⟩ | hb1
  · have hp : p < 4 := by omega
    rcases arg_n (xs (i + 2)) 25 with ⟨q, hq, e2⟩ | hb2
    · have hq : q < 25 := by omega
      exact lw_11_ok hLK c0 s0 hroom a (vOf ss k o) mo ki pr df co bi g9 lr bf tx le nx kn hv v0 k0 v1 k1 oa of mh m1 m2 m3 m4 m5 ss hi sl tx ne th kn ke le sp wr si on tw dn  i p q hi5 e1 e2 hd ht hp hq hM rfl hP hD hS hl (fun  H locs ls hP hD hS hl => W.widen (k := c0 + 1) (n := s0 + 6) (by omega) (by omega) (hk H locs ls (INV_of mo ki pr df co bi g9 lr bf nx hv v0 k0 v1 k1 (vp_updL of 0 ((iI (DIST (vOf ss k o).1 (vOf ss k o).2.1 p q)).toInt64)) ss hi sl tx ne (nI 0) kn ke le sp wr si on tw dn k o (eqv_rfl _) hP hD hS hl ⟨hM, hKO, hmo, hdf, htx, hle, hnx, hkn, hHR, hSL⟩)))
    · exact lw_11_x1b hLK c0 s0 hroom a (vOf ss k o) mo ki pr df co bi g9 lr bf tx le nx kn hv v0 k0 v1 k1 oa of mh m1 m2 m3 m4 m5 ss hi sl tx ne th kn ke le sp wr si on tw dn  i p (xs (i + 2)) hi5 e1 rfl hp hb2 hP hD hS hl (fun  H locs ls hP hD hS hl => W.widen (k := c0 + 1) (n := s0 + 6) (by omega) (by omega) (hk H locs ls (INV_of mo ki pr df co bi g9 lr bf nx hv v0 k0 v1 k1 of ss hi sl tx ne (nI 1) kn ke le sp wr si on tw dn k o (eqv_rfl _) hP hD hS hl ⟨hM, hKO, hmo, hdf, htx, hle, hnx, hkn, hHR, hSL⟩)))
  · exact lw_11_x1a hLK c0 s0 hroom a (vOf ss k o) mo ki pr df co bi g9 lr bf tx le nx kn hv v0 k0 v1 k1 oa of mh m1 m2 m3 m4 m5 ss hi sl tx ne th kn ke le sp wr si on tw dn  i (xs (i + 1)) (xs (i + 2)) hi5 rfl rfl hb1 hP hD hS hl (fun  H locs ls hP hD hS hl => W.widen (k := c0 + 1) (n := s0 + 6) (by omega) (by omega) (hk H locs ls (INV_of mo ki pr df co bi g9 lr bf nx hv v0 k0 v1 k1 of ss hi sl tx ne (nI 1) kn ke le sp wr si on tw dn k o (eqv_rfl _) hP hD hS hl ⟨hM, hKO, hmo, hdf, htx, hle, hnx, hkn, hHR, hSL⟩)))

set_option maxHeartbeats 4000000 in
set_option maxRecDepth 100000 in
theorem lwc_12 {pg : Program} {l : Launch} {ev : Env} {s : State} {m : MethodId} {below : List Frame} {meth : Method} {c : Code} {Q : State → Prop} {G : GT} {bq L : Nat} {xs : Nat → Int32} (hLK : LK pg l s m meth c bq L xs G) (c0 s0 : Nat) (hroom : c0 + 1 ≤ 601024 ∧ s0 + 6 ≤ 7293034) {a : Nat → Nat} {oa mh m1 m2 m3 m4 m5 : Nat} (i : Nat) (hi5 : i + 5 ≤ L) {H : Heap} {locs : List Loc} {ls : Array Slot} (hI : INV G a oa mh m1 m2 m3 m4 m5 bq s i H locs ls)
    (hk : ∀ (H : Heap) (locs : List Loc) (ls : Array Slot), INV G a oa mh m1 m2 m3 m4 m5 bq s i H locs ls → W pg l ev room_1 s m #[Value.ref bq] below meth c H locs (c0 + 1) (s0 + 6) Q (F0 m 1768 ls [])) :
    W pg l ev room_1 s m #[Value.ref bq] below meth c H locs c0 s0 Q (F0 m 866 ls []) := by
  obtain ⟨mo, ki, pr, df, co, bi, g9, lr, bf, nx, hv, v0, k0, v1, k1, of, ss, hi, sl, tx, ne, th, kn, ke, le, sp, wr, si, on, tw, dn, k, o, hP, hD, hS, hl, hR⟩ := hI
  obtain ⟨hM, hKO, hmo, hdf, htx, hle, hnx, hkn, hHR, hSL⟩ := hR
  have hd := MR_d hM
  have ht := MR_t hM
  have hg := MR_g hM
  have g : GV (vOf ss k o) ss := ⟨k, o, rfl, hM, hKO⟩
  rcases arg_n (xs (i + 1)) 4 with ⟨p, hp, e1⟩ | hb1
  · have hp : p < 4 := by omega
    exact lw_12_ok hLK c0 s0 hroom a (vOf ss k o) mo ki pr df co bi g9 lr bf tx le nx kn hv v0 k0 v1 k1 oa of mh m1 m2 m3 m4 m5 ss hi sl tx ne th kn ke le sp wr si on tw dn  i p hi5 e1 hd ht hp hM rfl hP hD hS hl (fun  H locs ls hP hD hS hl => W.widen (k := c0 + 1) (n := s0 + 6) (by omega) (by omega) (hk H locs ls (INV_of mo ki pr df co bi g9 lr bf nx hv v0 k0 v1 k1 (vp_updL of 0 ((nI (BEST (vOf ss k o).1 (vOf ss k o).2.1 p)).toInt64)) ss hi sl tx ne (nI 0) kn ke le sp wr si on tw dn k o (eqv_rfl _) hP hD hS hl ⟨hM, hKO, hmo, hdf, htx, hle, hnx, hkn, hHR, hSL⟩)))
  · exact lw_12_x1 hLK c0 s0 hroom a (vOf ss k o) mo ki pr df co bi g9 lr bf tx le nx kn hv v0 k0 v1 k1 oa of mh m1 m2 m3 m4 m5 ss hi sl tx ne th kn ke le sp wr si on tw dn  i (xs (i + 1)) hi5 rfl hb1 hP hD hS hl (fun  H locs ls hP hD hS hl => W.widen (k := c0 + 1) (n := s0 + 6) (by omega) (by omega) (hk H locs ls (INV_of mo ki pr df co bi g9 lr bf nx hv v0 k0 v1 k1 of ss hi sl tx ne (nI 1) kn ke le sp wr si on tw dn k o (eqv_rfl _) hP hD hS hl ⟨hM, hKO, hmo, hdf, htx, hle, hnx, hkn, hHR, hSL⟩)))

set_option maxHeartbeats 4000000 in
set_option maxRecDepth 100000 in
theorem lwc_13 {pg : Program} {l : Launch} {ev : Env} {s : State} {m : MethodId} {below : List Frame} {meth : Method} {c : Code} {Q : State → Prop} {G : GT} {bq L : Nat} {xs : Nat → Int32} (hLK : LK pg l s m meth c bq L xs G) (c0 s0 : Nat) (hroom : c0 + 1 ≤ 601024 ∧ s0 + 6 ≤ 7293034) {a : Nat → Nat} {oa mh m1 m2 m3 m4 m5 : Nat} (i : Nat) (hi5 : i + 5 ≤ L) {H : Heap} {locs : List Loc} {ls : Array Slot} (hI : INV G a oa mh m1 m2 m3 m4 m5 bq s i H locs ls)
    (hk : ∀ (H : Heap) (locs : List Loc) (ls : Array Slot), INV G a oa mh m1 m2 m3 m4 m5 bq s i H locs ls → W pg l ev room_1 s m #[Value.ref bq] below meth c H locs (c0 + 1) (s0 + 6) Q (F0 m 1768 ls [])) :
    W pg l ev room_1 s m #[Value.ref bq] below meth c H locs c0 s0 Q (F0 m 922 ls []) := by
  obtain ⟨mo, ki, pr, df, co, bi, g9, lr, bf, nx, hv, v0, k0, v1, k1, of, ss, hi, sl, tx, ne, th, kn, ke, le, sp, wr, si, on, tw, dn, k, o, hP, hD, hS, hl, hR⟩ := hI
  obtain ⟨hM, hKO, hmo, hdf, htx, hle, hnx, hkn, hHR, hSL⟩ := hR
  have hd := MR_d hM
  have ht := MR_t hM
  have hg := MR_g hM
  have g : GV (vOf ss k o) ss := ⟨k, o, rfl, hM, hKO⟩
  rcases arg_n (xs (i + 1)) 4 with ⟨p, hp, e1⟩ | hb1
  · have hp : p < 4 := by omega
    exact lw_13_ok hLK c0 s0 hroom a (vOf ss k o) mo ki pr df co bi g9 lr bf tx le nx kn hv v0 k0 v1 k1 oa of mh m1 m2 m3 m4 m5 ss hi sl tx ne th kn ke le sp wr si on tw dn  i p hi5 e1 hd ht hp hM (congrArg nI (bsS_BEST hd ht p).symm) hP hD hS hl (fun  H locs ls hP hD hS hl => W.widen (k := c0 + 1) (n := s0 + 6) (by omega) (by omega) (hk H locs ls (INV_of mo ki pr df co bi g9 lr bf nx hv v0 k0 v1 k1 (vp_updL of 0 ((nI ((bsS (vOf ss k o).1 (vOf ss k o).2.1 p 25).1)).toInt64)) ss hi sl tx ne (nI 0) kn ke le sp wr si on tw dn k o (eqv_rfl _) hP hD hS hl ⟨hM, hKO, hmo, hdf, htx, hle, hnx, hkn, hHR, hSL⟩)))
  · exact lw_13_x1 hLK c0 s0 hroom a (vOf ss k o) mo ki pr df co bi g9 lr bf tx le nx kn hv v0 k0 v1 k1 oa of mh m1 m2 m3 m4 m5 ss hi sl tx ne th kn ke le sp wr si on tw dn  i (xs (i + 1)) hi5 rfl hb1 hP hD hS hl (fun  H locs ls hP hD hS hl => W.widen (k := c0 + 1) (n := s0 + 6) (by omega) (by omega) (hk H locs ls (INV_of mo ki pr df co bi g9 lr bf nx hv v0 k0 v1 k1 of ss hi sl tx ne (nI 1) kn ke le sp wr si on tw dn k o (eqv_rfl _) hP hD hS hl ⟨hM, hKO, hmo, hdf, htx, hle, hnx, hkn, hHR, hSL⟩)))

set_option maxHeartbeats 4000000 in
set_option maxRecDepth 100000 in
theorem lwc_14 {pg : Program} {l : Launch} {ev : Env} {s : State} {m : MethodId} {below : List Frame} {meth : Method} {c : Code} {Q : State → Prop} {G : GT} {bq L : Nat} {xs : Nat → Int32} (hLK : LK pg l s m meth c bq L xs G) (c0 s0 : Nat) (hroom : c0 + 1 ≤ 601024 ∧ s0 + 6 ≤ 7293034) {a : Nat → Nat} {oa mh m1 m2 m3 m4 m5 : Nat} (i : Nat) (hi5 : i + 5 ≤ L) {H : Heap} {locs : List Loc} {ls : Array Slot} (hI : INV G a oa mh m1 m2 m3 m4 m5 bq s i H locs ls)
    (hk : ∀ (H : Heap) (locs : List Loc) (ls : Array Slot), INV G a oa mh m1 m2 m3 m4 m5 bq s i H locs ls → W pg l ev room_1 s m #[Value.ref bq] below meth c H locs (c0 + 1) (s0 + 6) Q (F0 m 1768 ls [])) :
    W pg l ev room_1 s m #[Value.ref bq] below meth c H locs c0 s0 Q (F0 m 978 ls []) := by
  obtain ⟨mo, ki, pr, df, co, bi, g9, lr, bf, nx, hv, v0, k0, v1, k1, of, ss, hi, sl, tx, ne, th, kn, ke, le, sp, wr, si, on, tw, dn, k, o, hP, hD, hS, hl, hR⟩ := hI
  obtain ⟨hM, hKO, hmo, hdf, htx, hle, hnx, hkn, hHR, hSL⟩ := hR
  have hd := MR_d hM
  have ht := MR_t hM
  have hg := MR_g hM
  have g : GV (vOf ss k o) ss := ⟨k, o, rfl, hM, hKO⟩
  rcases arg_n (xs (i + 1)) 4 with ⟨p, hp, e1⟩ | hb1
  · have hp : p < 4 := by omega
    exact lw_14_ok hLK c0 s0 hroom a (vOf ss k o) mo ki pr df co bi g9 lr bf tx le nx kn hv v0 k0 v1 k1 oa of mh m1 m2 m3 m4 m5 ss hi sl tx ne th kn ke le sp wr si on tw dn  i p hi5 e1 hd ht hp hM (congrArg nI (cnt_BEST hd ht p).symm) hP hD hS hl (fun  H locs ls hP hD hS hl => W.widen (k := c0 + 1) (n := s0 + 6) (by omega) (by omega) (hk H locs ls (INV_of mo ki pr df co bi g9 lr bf nx hv v0 k0 v1 k1 (vp_updL of 0 ((nI ((cnt (DIST (vOf ss k o).1 (vOf ss k o).2.1 p) 25).1)).toInt64)) ss hi sl tx ne (nI 0) kn ke le sp wr si on tw dn k o (eqv_rfl _) hP hD hS hl ⟨hM, hKO, hmo, hdf, htx, hle, hnx, hkn, hHR, hSL⟩)))
  · exact lw_14_x1 hLK c0 s0 hroom a (vOf ss k o) mo ki pr df co bi g9 lr bf tx le nx kn hv v0 k0 v1 k1 oa of mh m1 m2 m3 m4 m5 ss hi sl tx ne th kn ke le sp wr si on tw dn  i (xs (i + 1)) hi5 rfl hb1 hP hD hS hl (fun  H locs ls hP hD hS hl => W.widen (k := c0 + 1) (n := s0 + 6) (by omega) (by omega) (hk H locs ls (INV_of mo ki pr df co bi g9 lr bf nx hv v0 k0 v1 k1 of ss hi sl tx ne (nI 1) kn ke le sp wr si on tw dn k o (eqv_rfl _) hP hD hS hl ⟨hM, hKO, hmo, hdf, htx, hle, hnx, hkn, hHR, hSL⟩)))

set_option maxHeartbeats 4000000 in
set_option maxRecDepth 100000 in
theorem lwc_15 {pg : Program} {l : Launch} {ev : Env} {s : State} {m : MethodId} {below : List Frame} {meth : Method} {c : Code} {Q : State → Prop} {G : GT} {bq L : Nat} {xs : Nat → Int32} (hLK : LK pg l s m meth c bq L xs G) (c0 s0 : Nat) (hroom : c0 + 1 ≤ 601024 ∧ s0 + 6 ≤ 7293034) {a : Nat → Nat} {oa mh m1 m2 m3 m4 m5 : Nat} (i : Nat) (hi5 : i + 5 ≤ L) {H : Heap} {locs : List Loc} {ls : Array Slot} (hI : INV G a oa mh m1 m2 m3 m4 m5 bq s i H locs ls)
    (hk : ∀ (H : Heap) (locs : List Loc) (ls : Array Slot), INV G a oa mh m1 m2 m3 m4 m5 bq s i H locs ls → W pg l ev room_1 s m #[Value.ref bq] below meth c H locs (c0 + 1) (s0 + 6) Q (F0 m 1768 ls [])) :
    W pg l ev room_1 s m #[Value.ref bq] below meth c H locs c0 s0 Q (F0 m 1034 ls []) := by
  obtain ⟨mo, ki, pr, df, co, bi, g9, lr, bf, nx, hv, v0, k0, v1, k1, of, ss, hi, sl, tx, ne, th, kn, ke, le, sp, wr, si, on, tw, dn, k, o, hP, hD, hS, hl, hR⟩ := hI
  obtain ⟨hM, hKO, hmo, hdf, htx, hle, hnx, hkn, hHR, hSL⟩ := hR
  have hd := MR_d hM
  have ht := MR_t hM
  have hg := MR_g hM
  have g : GV (vOf ss k o) ss := ⟨k, o, rfl, hM, hKO⟩
  exact lw_15_ok hLK c0 s0 hroom a (vOf ss k o) mo ki pr df co bi g9 lr bf tx le nx kn hv v0 k0 v1 k1 oa of mh m1 m2 m3 m4 m5 ss hi sl tx ne th kn ke le sp wr si on tw dn  i  hi5 (vo_kd hM) (vo_pi hM) hM rfl hP hD hS hl (fun  H locs ls hP hD hS hl => W.widen (k := c0 + 1) (n := s0 + 6) (by omega) (by omega) (hk H locs ls (INV_of mo ki pr df co bi g9 lr bf nx hv v0 k0 v1 k1 of ss hi sl tx ne (nI 0) kn ke le sp wr si on tw dn k o (eqv_rfl _) hP hD hS hl ⟨hM, hKO, hmo, hdf, htx, hle, hnx, hkn, hHR, hSL⟩)))

set_option maxHeartbeats 4000000 in
set_option maxRecDepth 100000 in
theorem lwc_16 {pg : Program} {l : Launch} {ev : Env} {s : State} {m : MethodId} {below : List Frame} {meth : Method} {c : Code} {Q : State → Prop} {G : GT} {bq L : Nat} {xs : Nat → Int32} (hLK : LK pg l s m meth c bq L xs G) (c0 s0 : Nat) (hroom : c0 + 1 ≤ 601024 ∧ s0 + 6 ≤ 7293034) {a : Nat → Nat} {oa mh m1 m2 m3 m4 m5 : Nat} (i : Nat) (hi5 : i + 5 ≤ L) {H : Heap} {locs : List Loc} {ls : Array Slot} (hI : INV G a oa mh m1 m2 m3 m4 m5 bq s i H locs ls)
    (hk : ∀ (H : Heap) (locs : List Loc) (ls : Array Slot), INV G a oa mh m1 m2 m3 m4 m5 bq s i H locs ls → W pg l ev room_1 s m #[Value.ref bq] below meth c H locs (c0 + 1) (s0 + 6) Q (F0 m 1768 ls [])) :
    W pg l ev room_1 s m #[Value.ref bq] below meth c H locs c0 s0 Q (F0 m 1047 ls []) := by
  obtain ⟨mo, ki, pr, df, co, bi, g9, lr, bf, nx, hv, v0, k0, v1, k1, of, ss, hi, sl, tx, ne, th, kn, ke, le, sp, wr, si, on, tw, dn, k, o, hP, hD, hS, hl, hR⟩ := hI
  obtain ⟨hM, hKO, hmo, hdf, htx, hle, hnx, hkn, hHR, hSL⟩ := hR
  have hd := MR_d hM
  have ht := MR_t hM
  have hg := MR_g hM
  have g : GV (vOf ss k o) ss := ⟨k, o, rfl, hM, hKO⟩
  rcases arg_n (xs (i + 1)) 4 with ⟨p, hp, e1⟩ | hb1
  · have hp : p < 4 := by omega
    rcases arg_r (xs (i + 2)) 1 8 (by omega) with ⟨q, hq, e2, f2⟩ | hb2
    · have hq : 1 ≤ q ∧ q ≤ 8 := by omega
      exact lw_16_ok hLK c0 s0 hroom a (vOf ss k o) mo ki pr df co bi g9 lr bf tx le nx kn hv v0 k0 v1 k1 oa of mh m1 m2 m3 m4 m5 ss hi sl tx ne th kn ke le sp wr si on tw dn  i p q hi5 e1 e2 hd ht hdf hmo hp hq hM rfl hP hD hS hl (fun  H locs ls hP hD hS hl => W.widen (k := c0 + 1) (n := s0 + 6) (by omega) (by omega) (hk H locs ls (INV_of (va_up mo p (BEST (vOf ss k o).1 (vOf ss k o).2.1 p)) (va_up ki p (kdW ((va_up mo p (BEST (vOf ss k o).1 (vOf ss k o).2.1 p)) p) (LB (fdS (vOf ss k o).1 (vOf ss k o).2.1 p (BEST (vOf ss k o).1 (vOf ss k o).2.1 p) df 16) p q 16))) (fpS (vOf ss k o).2.1 p (BEST (vOf ss k o).1 (vOf ss k o).2.1 p) pr 16) (fdS (vOf ss k o).1 (vOf ss k o).2.1 p (BEST (vOf ss k o).1 (vOf ss k o).2.1 p) df 16) co bi g9 lr bf nx hv v0 k0 v1 k1 (vp_updL of 0 ((nI (KDM (vOf ss k o).1 (vOf ss k o).2.1 p q)).toInt64)) ss hi sl tx ne (nI 0) kn ke le sp wr si on tw dn k o (eqv_rfl _) hP hD hS hl ⟨hM, hKO, (M25_up hmo _ (BEST_lt _ _ _)), (fdS_D hd ht hdf 16), htx, hle, hnx, hkn, hHR, hSL⟩)))
    · exact lw_16_x2 hLK c0 s0 hroom a (vOf ss k o) mo ki pr df co bi g9 lr bf tx le nx kn hv v0 k0 v1 k1 oa of mh m1 m2 m3 m4 m5 ss hi sl tx ne th kn ke le sp wr si on tw dn  i p (xs (i + 2)) hi5 e1 rfl hp hb2 hP hD hS hl (fun  H locs ls hP hD hS hl => W.widen (k := c0 + 1) (n := s0 + 6) (by omega) (by omega) (hk H locs ls (INV_of mo ki pr df co bi g9 lr bf nx hv v0 k0 v1 k1 of ss hi sl tx ne (nI 2) kn ke le sp wr si on tw dn k o (eqv_rfl _) hP hD hS hl ⟨hM, hKO, hmo, hdf, htx, hle, hnx, hkn, hHR, hSL⟩)))
  · exact lw_16_x1 hLK c0 s0 hroom a (vOf ss k o) mo ki pr df co bi g9 lr bf tx le nx kn hv v0 k0 v1 k1 oa of mh m1 m2 m3 m4 m5 ss hi sl tx ne th kn ke le sp wr si on tw dn  i (xs (i + 1)) (xs (i + 2)) hi5 rfl rfl hb1 hP hD hS hl (fun  H locs ls hP hD hS hl => W.widen (k := c0 + 1) (n := s0 + 6) (by omega) (by omega) (hk H locs ls (INV_of mo ki pr df co bi g9 lr bf nx hv v0 k0 v1 k1 of ss hi sl tx ne (nI 1) kn ke le sp wr si on tw dn k o (eqv_rfl _) hP hD hS hl ⟨hM, hKO, hmo, hdf, htx, hle, hnx, hkn, hHR, hSL⟩)))

set_option maxHeartbeats 4000000 in
set_option maxRecDepth 100000 in
theorem lwc_17 {pg : Program} {l : Launch} {ev : Env} {s : State} {m : MethodId} {below : List Frame} {meth : Method} {c : Code} {Q : State → Prop} {G : GT} {bq L : Nat} {xs : Nat → Int32} (hLK : LK pg l s m meth c bq L xs G) (c0 s0 : Nat) (hroom : c0 + 1 ≤ 601024 ∧ s0 + 6 ≤ 7293034) {a : Nat → Nat} {oa mh m1 m2 m3 m4 m5 : Nat} (i : Nat) (hi5 : i + 5 ≤ L) {H : Heap} {locs : List Loc} {ls : Array Slot} (hI : INV G a oa mh m1 m2 m3 m4 m5 bq s i H locs ls)
    (hk : ∀ (H : Heap) (locs : List Loc) (ls : Array Slot), INV G a oa mh m1 m2 m3 m4 m5 bq s i H locs ls → W pg l ev room_1 s m #[Value.ref bq] below meth c H locs (c0 + 1) (s0 + 6) Q (F0 m 1768 ls [])) :
    W pg l ev room_1 s m #[Value.ref bq] below meth c H locs c0 s0 Q (F0 m 1115 ls []) := by
  obtain ⟨mo, ki, pr, df, co, bi, g9, lr, bf, nx, hv, v0, k0, v1, k1, of, ss, hi, sl, tx, ne, th, kn, ke, le, sp, wr, si, on, tw, dn, k, o, hP, hD, hS, hl, hR⟩ := hI
  obtain ⟨hM, hKO, hmo, hdf, htx, hle, hnx, hkn, hHR, hSL⟩ := hR
  have hd := MR_d hM
  have ht := MR_t hM
  have hg := MR_g hM
  have g : GV (vOf ss k o) ss := ⟨k, o, rfl, hM, hKO⟩
  rcases arg_n (xs (i + 1)) 4 with ⟨p, hp, e1⟩ | hb1
  · have hp : p < 4 := by omega
    rcases arg_r (xs (i + 2)) 1 8 (by omega) with ⟨q, hq, e2, f2⟩ | hb2
    · have hq : 1 ≤ q ∧ q ≤ 8 := by omega
      exact lw_17_ok hLK c0 s0 hroom a (vOf ss k o) mo ki pr df co bi g9 lr bf tx le nx kn hv v0 k0 v1 k1 oa of mh m1 m2 m3 m4 m5 ss hi sl tx ne th kn ke le sp wr si on tw dn  i p q hi5 e1 e2 hd ht hdf hmo hp hq hM rfl hP hD hS hl (fun  H locs ls hP hD hS hl => W.widen (k := c0 + 1) (n := s0 + 6) (by omega) (by omega) (hk H locs ls (INV_of (va_up mo p (BEST (vOf ss k o).1 (vOf ss k o).2.1 p)) (va_up ki p (kdW ((va_up mo p (BEST (vOf ss k o).1 (vOf ss k o).2.1 p)) p) (LB (fdS (vOf ss k o).1 (vOf ss k o).2.1 p (BEST (vOf ss k o).1 (vOf ss k o).2.1 p) df 16) p q 16))) (fpS (vOf ss k o).2.1 p (BEST (vOf ss k o).1 (vOf ss k o).2.1 p) pr 16) (fdS (vOf ss k o).1 (vOf ss k o).2.1 p (BEST (vOf ss k o).1 (vOf ss k o).2.1 p) df 16) co bi g9 lr bf nx hv v0 k0 v1 k1 (vp_updL of 0 ((nI (BTM (vOf ss k o).1 (vOf ss k o).2.1 p q)).toInt64)) ss hi sl tx ne (nI 0) kn ke le sp wr si on tw dn k o (eqv_rfl _) hP hD hS hl ⟨hM, hKO, (M25_up hmo _ (BEST_lt _ _ _)), (fdS_D hd ht hdf 16), htx, hle, hnx, hkn, hHR, hSL⟩)))
    · exact lw_17_x2 hLK c0 s0 hroom a (vOf ss k o) mo ki pr df co bi g9 lr bf tx le nx kn hv v0 k0 v1 k1 oa of mh m1 m2 m3 m4 m5 ss hi sl tx ne th kn ke le sp wr si on tw dn  i p (xs (i + 2)) hi5 e1 rfl hp hb2 hP hD hS hl (fun  H locs ls hP hD hS hl => W.widen (k := c0 + 1) (n := s0 + 6) (by omega) (by omega) (hk H locs ls (INV_of mo ki pr df co bi g9 lr bf nx hv v0 k0 v1 k1 of ss hi sl tx ne (nI 2) kn ke le sp wr si on tw dn k o (eqv_rfl _) hP hD hS hl ⟨hM, hKO, hmo, hdf, htx, hle, hnx, hkn, hHR, hSL⟩)))
  · exact lw_17_x1 hLK c0 s0 hroom a (vOf ss k o) mo ki pr df co bi g9 lr bf tx le nx kn hv v0 k0 v1 k1 oa of mh m1 m2 m3 m4 m5 ss hi sl tx ne th kn ke le sp wr si on tw dn  i (xs (i + 1)) (xs (i + 2)) hi5 rfl rfl hb1 hP hD hS hl (fun  H locs ls hP hD hS hl => W.widen (k := c0 + 1) (n := s0 + 6) (by omega) (by omega) (hk H locs ls (INV_of mo ki pr df co bi g9 lr bf nx hv v0 k0 v1 k1 of ss hi sl tx ne (nI 1) kn ke le sp wr si on tw dn k o (eqv_rfl _) hP hD hS hl ⟨hM, hKO, hmo, hdf, htx, hle, hnx, hkn, hHR, hSL⟩)))

set_option maxHeartbeats 4000000 in
set_option maxRecDepth 100000 in
theorem lwc_18 {pg : Program} {l : Launch} {ev : Env} {s : State} {m : MethodId} {below : List Frame} {meth : Method} {c : Code} {Q : State → Prop} {G : GT} {bq L : Nat} {xs : Nat → Int32} (hLK : LK pg l s m meth c bq L xs G) (c0 s0 : Nat) (hroom : c0 + 1 ≤ 601024 ∧ s0 + 6 ≤ 7293034) {a : Nat → Nat} {oa mh m1 m2 m3 m4 m5 : Nat} (i : Nat) (hi5 : i + 5 ≤ L) {H : Heap} {locs : List Loc} {ls : Array Slot} (hI : INV G a oa mh m1 m2 m3 m4 m5 bq s i H locs ls)
    (hk : ∀ (H : Heap) (locs : List Loc) (ls : Array Slot), INV G a oa mh m1 m2 m3 m4 m5 bq s i H locs ls → W pg l ev room_1 s m #[Value.ref bq] below meth c H locs (c0 + 1) (s0 + 6) Q (F0 m 1768 ls [])) :
    W pg l ev room_1 s m #[Value.ref bq] below meth c H locs c0 s0 Q (F0 m 1183 ls []) := by
  obtain ⟨mo, ki, pr, df, co, bi, g9, lr, bf, nx, hv, v0, k0, v1, k1, of, ss, hi, sl, tx, ne, th, kn, ke, le, sp, wr, si, on, tw, dn, k, o, hP, hD, hS, hl, hR⟩ := hI
  obtain ⟨hM, hKO, hmo, hdf, htx, hle, hnx, hkn, hHR, hSL⟩ := hR
  have hd := MR_d hM
  have ht := MR_t hM
  have hg := MR_g hM
  have g : GV (vOf ss k o) ss := ⟨k, o, rfl, hM, hKO⟩
  rcases arg_n (xs (i + 1)) 4 with ⟨p, hp, e1⟩ | hb1
  · have hp : p < 4 := by omega
    rcases arg_r (xs (i + 2)) 1 8 (by omega) with ⟨q, hq, e2, f2⟩ | hb2
    · have hq : 1 ≤ q ∧ q ≤ 8 := by omega
      exact lw_18_ok hLK c0 s0 hroom a (vOf ss k o) mo ki pr df co bi g9 lr bf tx le nx kn hv v0 k0 v1 k1 oa of mh m1 m2 m3 m4 m5 ss hi sl tx ne th kn ke le sp wr si on tw dn  i p q hi5 e1 e2 hd ht hdf hmo hp hq hM rfl hP hD hS hl (fun u_1 H locs ls hP hD hS hl => W.widen (k := c0 + 1) (n := s0 + 6) (by omega) (by omega) (hk H locs ls (INV_of (va_up mo p (BEST (vOf ss k o).1 (vOf ss k o).2.1 p)) ki (fpS (vOf ss k o).2.1 p (BEST (vOf ss k o).1 (vOf ss k o).2.1 p) pr 16) (fdS (vOf ss k o).1 (vOf ss k o).2.1 p (BEST (vOf ss k o).1 (vOf ss k o).2.1 p) df 16) co bi u_1.1 u_1.2 bf nx hv v0 k0 v1 k1 (vp_updL of 0 ((nI (BTM (vOf ss k o).1 (vOf ss k o).2.1 p q)).toInt64)) ss hi sl tx ne (nI 0) kn ke le sp wr si on tw dn k o (eqv_rfl _) hP hD hS hl ⟨hM, hKO, (M25_up hmo _ (BEST_lt _ _ _)), (fdS_D hd ht hdf 16), htx, hle, hnx, hkn, hHR, hSL⟩)))
    · exact lw_18_x2 hLK c0 s0 hroom a (vOf ss k o) mo ki pr df co bi g9 lr bf tx le nx kn hv v0 k0 v1 k1 oa of mh m1 m2 m3 m4 m5 ss hi sl tx ne th kn ke le sp wr si on tw dn  i p (xs (i + 2)) hi5 e1 rfl hp hb2 hP hD hS hl (fun  H locs ls hP hD hS hl => W.widen (k := c0 + 1) (n := s0 + 6) (by omega) (by omega) (hk H locs ls (INV_of mo ki pr df co bi g9 lr bf nx hv v0 k0 v1 k1 of ss hi sl tx ne (nI 2) kn ke le sp wr si on tw dn k o (eqv_rfl _) hP hD hS hl ⟨hM, hKO, hmo, hdf, htx, hle, hnx, hkn, hHR, hSL⟩)))
  · exact lw_18_x1 hLK c0 s0 hroom a (vOf ss k o) mo ki pr df co bi g9 lr bf tx le nx kn hv v0 k0 v1 k1 oa of mh m1 m2 m3 m4 m5 ss hi sl tx ne th kn ke le sp wr si on tw dn  i (xs (i + 1)) (xs (i + 2)) hi5 rfl rfl hb1 hP hD hS hl (fun  H locs ls hP hD hS hl => W.widen (k := c0 + 1) (n := s0 + 6) (by omega) (by omega) (hk H locs ls (INV_of mo ki pr df co bi g9 lr bf nx hv v0 k0 v1 k1 of ss hi sl tx ne (nI 1) kn ke le sp wr si on tw dn k o (eqv_rfl _) hP hD hS hl ⟨hM, hKO, hmo, hdf, htx, hle, hnx, hkn, hHR, hSL⟩)))
