set_option maxHeartbeats 4000000 in
set_option maxRecDepth 100000 in
theorem lwc_0 {pg : Program} {l : Launch} {ev : Env} {s : State} {m : MethodId} {below : List Frame} {meth : Method} {c : Code} {Q : State → Prop} {G : GT} {bq L : Nat} {xs : Nat → Int32} (hLK : LK pg l s m meth c bq L xs G) (c0 s0 : Nat) (hroom : c0 + 1 ≤ 601024 ∧ s0 + 6 ≤ 7293034) {a : Nat → Nat} {oa mh m1 m2 m3 m4 m5 : Nat} (i : Nat) (hi5 : i + 5 ≤ L) {H : Heap} {locs : List Loc} {ls : Array Slot} (hI : INV G a oa mh m1 m2 m3 m4 m5 bq s i H locs ls)
    (hk : ∀ (H : Heap) (locs : List Loc) (ls : Array Slot), INV G a oa mh m1 m2 m3 m4 m5 bq s i H locs ls → W pg l ev room_1 s m #[Value.ref bq] below meth c H locs (c0 + 1) (s0 + 6) Q (F0 m 1768 ls [])) :
    W pg l ev room_1 s m #[Value.ref bq] below meth c H locs c0 s0 Q (F0 m 192 ls []) := by
  obtain ⟨mo, ki, pr, df, co, bi, g9, lr, bf, nx, hv, v0, k0, v1, k1, of, ss, hi, sl, tx, ne, th, kn, ke, le, sp, wr, si, on, tw, dn, k, o, hP, hD, hS, hl, hR⟩ := hI
  obtain ⟨hM, hKO, hmo, hdf, htx, hle, hnx, hkn, hHR, hSL⟩ := hR
  have hd := MR_d hM
  have ht := MR_t hM
  have hg := MR_g hM
  have g : GV (vOf ss k o) ss := ⟨k, o, rfl, hM, hKO⟩
  rcases arg_n (xs (i + 1)) 64 with ⟨p, hp, e1⟩ | hb1
  · have hp : p < 64 := by omega
    by_cases hw : 0 ≤ (xs (i + 2)).toInt ∧ (xs (i + 2)).toInt ≤ 15
    · exact lw_0_ok hLK c0 s0 hroom a (vOf ss k o) mo ki pr df co bi g9 lr bf tx le nx kn hv v0 k0 v1 k1 oa of mh m1 m2 m3 m4 m5 ss hi sl tx ne th kn ke le sp wr si on tw dn  i p ((xs (i + 2)).toInt) hi5 e1 (arg_i _) hnx hkn hp hw hkn (congrArg iI (dS_at hp)) hP hD hS hl (fun  H locs ls hP hD hS hl => W.widen (k := c0 + 1) (n := s0 + 6) (by omega) (by omega) (hk H locs ls (INV_of mo ki pr df co bi g9 lr bf ((nx + 1) % 6) (va_up hv nx (vOf ss k o)) v0 k0 v1 k1 (vp_updL of 0 ((iI ((vOf ss k o).1 p)).toInt64)) (va_up ss p ((xs (i + 2)).toInt)) (recH hi ss kn) sl tx ne (nI 0) (min (kn + 1) 6) ke le sp wr si on tw dn k o (eq_up hp) hP hD hS hl ⟨(MR_up hM (by omega) hw.1 hw.2), (KO_ag hKO (fun j h2 _ => va_up_ne _ _ (by omega))), hmo, hdf, htx, hle, (Nat.mod_lt _ (by omega)), (Nat.min_le_right _ _), (HR_rec hnx hkn hHR g), hSL⟩)))
    · exact lw_0_x2 hLK c0 s0 hroom a (vOf ss k o) mo ki pr df co bi g9 lr bf tx le nx kn hv v0 k0 v1 k1 oa of mh m1 m2 m3 m4 m5 ss hi sl tx ne th kn ke le sp wr si on tw dn  i p (xs (i + 2)) hi5 e1 rfl hp (by omega) hP hD hS hl (fun  H locs ls hP hD hS hl => W.widen (k := c0 + 1) (n := s0 + 6) (by omega) (by omega) (hk H locs ls (INV_of mo ki pr df co bi g9 lr bf nx hv v0 k0 v1 k1 of ss hi sl tx ne (nI 2) kn ke le sp wr si on tw dn k o (eqv_rfl _) hP hD hS hl ⟨hM, hKO, hmo, hdf, htx, hle, hnx, hkn, hHR, hSL⟩)))
  · exact lw_0_x1 hLK c0 s0 hroom a (vOf ss k o) mo ki pr df co bi g9 lr bf tx le nx kn hv v0 k0 v1 k1 oa of mh m1 m2 m3 m4 m5 ss hi sl tx ne th kn ke le sp wr si on tw dn  i (xs (i + 1)) (xs (i + 2)) hi5 rfl rfl hb1 hP hD hS hl (fun  H locs ls hP hD hS hl => W.widen (k := c0 + 1) (n := s0 + 6) (by omega) (by omega) (hk H locs ls (INV_of mo ki pr df co bi g9 lr bf nx hv v0 k0 v1 k1 of ss hi sl tx ne (nI 1) kn ke le sp wr si on tw dn k o (eqv_rfl _) hP hD hS hl ⟨hM, hKO, hmo, hdf, htx, hle, hnx, hkn, hHR, hSL⟩)))

set_option maxHeartbeats 4000000 in
set_option maxRecDepth 100000 in
theorem lwc_1 {pg : Program} {l : Launch} {ev : Env} {s : State} {m : MethodId} {below : List Frame} {meth : Method} {c : Code} {Q : State → Prop} {G : GT} {bq L : Nat} {xs : Nat → Int32} (hLK : LK pg l s m meth c bq L xs G) (c0 s0 : Nat) (hroom : c0 + 1 ≤ 601024 ∧ s0 + 6 ≤ 7293034) {a : Nat → Nat} {oa mh m1 m2 m3 m4 m5 : Nat} (i : Nat) (hi5 : i + 5 ≤ L) {H : Heap} {locs : List Loc} {ls : Array Slot} (hI : INV G a oa mh m1 m2 m3 m4 m5 bq s i H locs ls)
    (hk : ∀ (H : Heap) (locs : List Loc) (ls : Array Slot), INV G a oa mh m1 m2 m3 m4 m5 bq s i H locs ls → W pg l ev room_1 s m #[Value.ref bq] below meth c H locs (c0 + 1) (s0 + 6) Q (F0 m 1768 ls [])) :
    W pg l ev room_1 s m #[Value.ref bq] below meth c H locs c0 s0 Q (F0 m 260 ls []) := by
  obtain ⟨mo, ki, pr, df, co, bi, g9, lr, bf, nx, hv, v0, k0, v1, k1, of, ss, hi, sl, tx, ne, th, kn, ke, le, sp, wr, si, on, tw, dn, k, o, hP, hD, hS, hl, hR⟩ := hI
  obtain ⟨hM, hKO, hmo, hdf, htx, hle, hnx, hkn, hHR, hSL⟩ := hR
  have hd := MR_d hM
  have ht := MR_t hM
  have hg := MR_g hM
  have g : GV (vOf ss k o) ss := ⟨k, o, rfl, hM, hKO⟩
  rcases arg_n (xs (i + 1)) 64 with ⟨p, hp, e1⟩ | hb1
  · have hp : p < 64 := by omega
    rcases arg_r (xs (i + 2)) 1 8 (by omega) with ⟨q2, hq2, e2, f2⟩ | hb2
    · have hq2 : 1 ≤ q2 ∧ q2 ≤ 8 := by omega
      rcases arg_r (xs (i + 3)) 1 8 (by omega) with ⟨q3, hq3, e3, f3⟩ | hb3
      · have hq3 : 1 ≤ q3 ∧ q3 ≤ 8 := by omega
        by_cases hw : 0 ≤ (xs (i + 4)).toInt ∧ (xs (i + 4)).toInt ≤ 15
        · exact lw_1_ok hLK c0 s0 hroom a (vOf ss k o) mo ki pr df co bi g9 lr bf tx le nx kn hv v0 k0 v1 k1 oa of mh m1 m2 m3 m4 m5 ss hi sl tx ne th kn ke le sp wr si on tw dn  i p q2 q3 ((xs (i + 4)).toInt) hi5 e1 e2 e3 (arg_i _) hnx hkn hp hq2 hq3 hw hd hkn hM (congrArg nI (fill_ag hp dS_e).2.symm) hP hD hS hl (fun  H locs ls hP hD hS hl => W.widen (k := c0 + 1) (n := s0 + 6) (by omega) (by omega) (hk H locs ls (INV_of mo ki pr df co bi g9 lr bf ((nx + 1) % 6) (va_up hv nx (vOf ss k o)) v0 k0 v1 k1 (vp_updL of 0 ((nI ((fillS (vOf ss k o).1 p q2 q3 ((xs (i + 4)).toInt)).2)).toInt64)) ((fillS ss p q2 q3 ((xs (i + 4)).toInt)).1) (recH hi ss kn) sl tx ne (nI 0) (min (kn + 1) 6) ke le sp wr si on tw dn k o (eq_fl hp) hP hD hS hl ⟨(MR_fl hM hp hw), (KO_ag hKO (fun j h2 _ => fill_hi hp (by omega))), hmo, hdf, htx, hle, (Nat.mod_lt _ (by omega)), (Nat.min_le_right _ _), (HR_rec hnx hkn hHR g), hSL⟩)))
        · exact lw_1_x2c hLK c0 s0 hroom a (vOf ss k o) mo ki pr df co bi g9 lr bf tx le nx kn hv v0 k0 v1 k1 oa of mh m1 m2 m3 m4 m5 ss hi sl tx ne th kn ke le sp wr si on tw dn  i p (xs (i + 2)) (xs (i + 3)) (xs (i + 4)) hi5 e1 rfl rfl rfl hp f2 f3 (by omega) hP hD hS hl (fun  H locs ls hP hD hS hl => W.widen (k := c0 + 1) (n := s0 + 6) (by omega) (by omega) (hk H locs ls (INV_of mo ki pr df co bi g9 lr bf nx hv v0 k0 v1 k1 of ss hi sl tx ne (nI 2) kn ke le sp wr si on tw dn k o (eqv_rfl _) hP hD hS hl ⟨hM, hKO, hmo, hdf, htx, hle, hnx, hkn, hHR, hSL⟩)))
      · exact lw_1_x2b hLK c0 s0 hroom a (vOf ss k o) mo ki pr df co bi g9 lr bf tx le nx kn hv v0 k0 v1 k1 oa of mh m1 m2 m3 m4 m5 ss hi sl tx ne th kn ke le sp wr si on tw dn  i p (xs (i + 2)) (xs (i + 3)) (xs (i + 4)) hi5 e1 rfl rfl rfl hp f2 hb3 hP hD hS hl (fun  H locs ls hP hD hS hl => W.widen (k := c0 + 1) (n := s0 + 6) (by omega) (by omega) (hk H locs ls (INV_of mo ki pr df co bi g9 lr bf nx hv v0 k0 v1 k1 of ss hi sl tx ne (nI 2) kn ke le sp wr si on tw dn k o (eqv_rfl _) hP hD hS hl ⟨hM, hKO, hmo, hdf, htx, hle, hnx, hkn, hHR, hSL⟩)))
    · exact lw_1_x2a hLK c0 s0 hroom a (vOf ss k o) mo ki pr df co bi g9 lr bf tx le nx kn hv v0 k0 v1 k1 oa of mh m1 m2 m3 m4 m5 ss hi sl tx ne th kn ke le sp wr si on tw dn  i p (xs (i + 2)) (xs (i + 3)) (xs (i + 4)) hi5 e1 rfl rfl rfl hp hb2 hP hD hS hl (fun  H locs ls hP hD hS hl => W.widen (k := c0 + 1) (n := s0 + 6) (by omega) (by omega) (hk H locs ls (INV_of mo ki pr df co bi g9 lr bf nx hv v0 k0 v1 k1 of ss hi sl tx ne (nI 2) kn ke le sp wr si on tw dn k o (eqv_rfl _) hP hD hS hl ⟨hM, hKO, hmo, hdf, htx, hle, hnx, hkn, hHR, hSL⟩)))
  · exact lw_1_x1 hLK c0 s0 hroom a (vOf ss k o) mo ki pr df co bi g9 lr bf tx le nx kn hv v0 k0 v1 k1 oa of mh m1 m2 m3 m4 m5 ss hi sl tx ne th kn ke le sp wr si on tw dn  i (xs (i + 1)) (xs (i + 2)) (xs (i + 3)) (xs (i + 4)) hi5 rfl rfl rfl rfl hb1 hP hD hS hl (fun  H locs ls hP hD hS hl => W.widen (k := c0 + 1) (n := s0 + 6) (by omega) (by omega) (hk H locs ls (INV_of mo ki pr df co bi g9 lr bf nx hv v0 k0 v1 k1 of ss hi sl tx ne (nI 1) kn ke le sp wr si on tw dn k o (eqv_rfl _) hP hD hS hl ⟨hM, hKO, hmo, hdf, htx, hle, hnx, hkn, hHR, hSL⟩)))

set_option maxHeartbeats 4000000 in
set_option maxRecDepth 100000 in
theorem lwc_2 {pg : Program} {l : Launch} {ev : Env} {s : State} {m : MethodId} {below : List Frame} {meth : Method} {c : Code} {Q : State → Prop} {G : GT} {bq L : Nat} {xs : Nat → Int32} (hLK : LK pg l s m meth c bq L xs G) (c0 s0 : Nat) (hroom : c0 + 1 ≤ 601024 ∧ s0 + 6 ≤ 7293034) {a : Nat → Nat} {oa mh m1 m2 m3 m4 m5 : Nat} (i : Nat) (hi5 : i + 5 ≤ L) {H : Heap} {locs : List Loc} {ls : Array Slot} (hI : INV G a oa mh m1 m2 m3 m4 m5 bq s i H locs ls)
    (hk : ∀ (H : Heap) (locs : List Loc) (ls : Array Slot), INV G a oa mh m1 m2 m3 m4 m5 bq s i H locs ls → W pg l ev room_1 s m #[Value.ref bq] below meth c H locs (c0 + 1) (s0 + 6) Q (F0 m 1768 ls [])) :
    W pg l ev room_1 s m #[Value.ref bq] below meth c H locs c0 s0 Q (F0 m 352 ls []) := by
  obtain ⟨mo, ki, pr, df, co, bi, g9, lr, bf, nx, hv, v0, k0, v1, k1, of, ss, hi, sl, tx, ne, th, kn, ke, le, sp, wr, si, on, tw, dn, k, o, hP, hD, hS, hl, hR⟩ := hI
  obtain ⟨hM, hKO, hmo, hdf, htx, hle, hnx, hkn, hHR, hSL⟩ := hR
  have hd := MR_d hM
  have ht := MR_t hM
  have hg := MR_g hM
  have g : GV (vOf ss k o) ss := ⟨k, o, rfl, hM, hKO⟩
  by_cases hy : -2 ≤ (xs (i + 1)).toInt ∧ (xs (i + 1)).toInt ≤ 2
  · by_cases hz : -2 ≤ (xs (i + 2)).toInt ∧ (xs (i + 2)).toInt ≤ 2
    · exact lw_2_ok hLK c0 s0 hroom a (vOf ss k o) mo ki pr df co bi g9 lr bf tx le nx kn hv v0 k0 v1 k1 oa of mh m1 m2 m3 m4 m5 ss hi sl tx ne th kn ke le sp wr si on tw dn  i ((xs (i + 1)).toInt) ((xs (i + 2)).toInt) hi5 (arg_i _) (arg_i _) hnx hkn hy hz hd hkn hM (congrArg nI cn_sc.symm) hP hD hS hl (fun  H locs ls hP hD hS hl => W.widen (k := c0 + 1) (n := s0 + 6) (by omega) (by omega) (hk H locs ls (INV_of mo ki pr df co bi g9 lr ((vOf ss k o).1) ((nx + 1) % 6) (va_up hv nx (vOf ss k o)) v0 k0 v1 k1 (vp_updL of 0 ((nI ((tkm (vOf ss k o).1 ((xs (i + 1)).toInt) ((xs (i + 2)).toInt) (vOf ss k o).1 64).2)).toInt64)) ((tkm ss ((xs (i + 1)).toInt) ((xs (i + 2)).toInt) ss 64).1) (recH hi ss kn) sl tx (neS ne ss ((xs (i + 1)).toInt) ((xs (i + 2)).toInt) 64) (nI 0) (min (kn + 1) 6) ke le sp wr si on tw dn k o eq_sc hP hD hS hl ⟨(MR_sc hM _ _), (KO_ag hKO (fun j h2 _ => tkm_hi _ _ (by omega) 64 (Nat.le_refl 64))), hmo, hdf, htx, hle, (Nat.mod_lt _ (by omega)), (Nat.min_le_right _ _), (HR_rec hnx hkn hHR g), hSL⟩)))
    · exact lw_2_x1b hLK c0 s0 hroom a (vOf ss k o) mo ki pr df co bi g9 lr bf tx le nx kn hv v0 k0 v1 k1 oa of mh m1 m2 m3 m4 m5 ss hi sl tx ne th kn ke le sp wr si on tw dn  i (xs (i + 1)) (xs (i + 2)) hi5 rfl rfl hy (by omega) hP hD hS hl (fun  H locs ls hP hD hS hl => W.widen (k := c0 + 1) (n := s0 + 6) (by omega) (by omega) (hk H locs ls (INV_of mo ki pr df co bi g9 lr bf nx hv v0 k0 v1 k1 of ss hi sl tx ne (nI 1) kn ke le sp wr si on tw dn k o (eqv_rfl _) hP hD hS hl ⟨hM, hKO, hmo, hdf, htx, hle, hnx, hkn, hHR, hSL⟩)))
  · exact lw_2_x1a hLK c0 s0 hroom a (vOf ss k o) mo ki pr df co bi g9 lr bf tx le nx kn hv v0 k0 v1 k1 oa of mh m1 m2 m3 m4 m5 ss hi sl tx ne th kn ke le sp wr si on tw dn  i (xs (i + 1)) (xs (i + 2)) hi5 rfl rfl (by omega) hP hD hS hl (fun  H locs ls hP hD hS hl => W.widen (k := c0 + 1) (n := s0 + 6) (by omega) (by omega) (hk H locs ls (INV_of mo ki pr df co bi g9 lr bf nx hv v0 k0 v1 k1 of ss hi sl tx ne (nI 1) kn ke le sp wr si on tw dn k o (eqv_rfl _) hP hD hS hl ⟨hM, hKO, hmo, hdf, htx, hle, hnx, hkn, hHR, hSL⟩)))
