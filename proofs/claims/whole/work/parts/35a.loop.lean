/-! ===== the law's loop ===== -/
theorem and63 (x : Int32) : ∃ k : Nat, k < 64 ∧ x &&& nI 63 = nI k := by
  obtain ⟨n, hn, rfl⟩ := wb_of32 x
  refine ⟨n % 64, by omega, ?_⟩
  apply Int32.toBitVec_inj.mp
  rw [Int32.toBitVec_and]
  show BitVec.ofNat 32 n &&& BitVec.ofNat 32 63 = BitVec.ofNat 32 (n % 64)
  apply BitVec.eq_of_toNat_eq
  rw [BitVec.toNat_and, BitVec.toNat_ofNat, BitVec.toNat_ofNat, BitVec.toNat_ofNat, Nat.mod_eq_of_lt hn, Nat.mod_eq_of_lt (show 63 < 2 ^ 32 by decide), Nat.mod_eq_of_lt (show n % 64 < 2 ^ 32 by omega), show (63 : Nat) = 2 ^ 6 - 1 from rfl, Nat.and_two_pow_sub_one_eq_mod]
set_option maxHeartbeats 4000000 in
set_option maxRecDepth 100000 in
theorem lw_step {pg : Program} {l : Launch} {ev : Env} {s : State} {m : MethodId} {below : List Frame} {meth : Method} {c : Code} {Q : State → Prop} {G : GT} {bq L : Nat} {xs : Nat → Int32} (hLK : LK pg l s m meth c bq L xs G) (c0 s0 : Nat) (hroom : c0 + 1 ≤ 601024 ∧ s0 + 6 ≤ 7293034) {a : Nat → Nat} {oa mh m1 m2 m3 m4 m5 : Nat} (i : Nat) (hi5 : i + 5 ≤ L) {H : Heap} {locs : List Loc} {ls : Array Slot} (hI : INV G a oa mh m1 m2 m3 m4 m5 bq s i H locs ls)
    (hk : ∀ (H : Heap) (locs : List Loc) (ls : Array Slot), INV G a oa mh m1 m2 m3 m4 m5 bq s i H locs ls → W pg l ev room_1 s m #[Value.ref bq] below meth c H locs (c0 + 1) (s0 + 6) Q (F0 m 1768 ls [])) :
    W pg l ev room_1 s m #[Value.ref bq] below meth c H locs c0 s0 Q (F0 m 32 ls []) := by
  have hI0 := hI
  obtain ⟨mo, ki, pr, df, co, bi, g9, lr, bf, nx, hv, v0, k0, v1, k1, of, ss, hi9, sl, tx, ne, th, kn, ke, le, sp, wr, si, on, tw, dn, k, o, hP, hD, hS, hl, hR⟩ := hI0
  have hLK0 := hLK
  obtain ⟨hx, hb, hml, hown, hts, hX, hbl, hCX, hgB, hfl, hL9⟩ := hLK0
  have hbA : ¬ lo G bq := by show ¬ gB G ≤ bq; rw [hgB]; omega
  refine lv_aload_n hx hb dL_law_32 rfl (lv_at hl 0 rfl) ?_
  refine lv_iload hx hb dL_law_33 (lv_at hl 4 rfl) ?_
  refine gScr (i := i) (v := xs i) hx hb hX hbl hbA hS (by omega) hL9 rfl dL_law_35 ?_
  refine lv_bipush (v := nI 63) hx hb dL_law_36 (by decide) ?_
  obtain ⟨kk, hk64, ek⟩ := and63 (xs i)
  refine g_iand (z := nI kk) hx hb dL_law_38 ek ?_
  by_cases hk35 : kk < 35
  · clear ek hk64
    rcases (show kk = 0 ∨ kk = 1 ∨ kk = 2 ∨ kk = 3 ∨ kk = 4 ∨ kk = 5 ∨ kk = 6 ∨ kk = 7 ∨ kk = 8 ∨ kk = 9 ∨ kk = 10 ∨ kk = 11 ∨ kk = 12 ∨ kk = 13 ∨ kk = 14 ∨ kk = 15 ∨ kk = 16 ∨ kk = 17 ∨ kk = 18 ∨ kk = 19 ∨ kk = 20 ∨ kk = 21 ∨ kk = 22 ∨ kk = 23 ∨ kk = 24 ∨ kk = 25 ∨ kk = 26 ∨ kk = 27 ∨ kk = 28 ∨ kk = 29 ∨ kk = 30 ∨ kk = 31 ∨ kk = 32 ∨ kk = 33 ∨ kk = 34 by omega) with rfl | rfl | rfl | rfl | rfl | rfl | rfl | rfl | rfl | rfl | rfl | rfl | rfl | rfl | rfl | rfl | rfl | rfl | rfl | rfl | rfl | rfl | rfl | rfl | rfl | rfl | rfl | rfl | rfl | rfl | rfl | rfl | rfl | rfl | rfl
    · exact lv_tableIn (off := 153) (tgt := 192) hx hb dL_law_39 (by decide) (by decide) (by decide) (by decide) (lwc_0 hLK c0 s0 hroom i hi5 hI hk)
    · exact lv_tableIn (off := 221) (tgt := 260) hx hb dL_law_39 (by decide) (by decide) (by decide) (by decide) (lwc_1 hLK c0 s0 hroom i hi5 hI hk)
    · exact lv_tableIn (off := 313) (tgt := 352) hx hb dL_law_39 (by decide) (by decide) (by decide) (by decide) (lwc_2 hLK c0 s0 hroom i hi5 hI hk)
    · exact lv_tableIn (off := 381) (tgt := 420) hx hb dL_law_39 (by decide) (by decide) (by decide) (by decide) (lwc_3 hLK c0 s0 hroom i hi5 hI hk)
    · exact lv_tableIn (off := 453) (tgt := 492) hx hb dL_law_39 (by decide) (by decide) (by decide) (by decide) (lwc_4 hLK c0 s0 hroom i hi5 hI hk)
    · exact lv_tableIn (off := 509) (tgt := 548) hx hb dL_law_39 (by decide) (by decide) (by decide) (by decide) (lwc_5 hLK c0 s0 hroom i hi5 hI hk)
    · exact lv_tableIn (off := 565) (tgt := 604) hx hb dL_law_39 (by decide) (by decide) (by decide) (by decide) (lwc_6 hLK c0 s0 hroom i hi5 hI hk)
    · exact lv_tableIn (off := 621) (tgt := 660) hx hb dL_law_39 (by decide) (by decide) (by decide) (by decide) (lwc_7 hLK c0 s0 hroom i hi5 hI hk)
    · exact lv_tableIn (off := 677) (tgt := 716) hx hb dL_law_39 (by decide) (by decide) (by decide) (by decide) (lwc_8 hLK c0 s0 hroom i hi5 hI hk)
    · exact lv_tableIn (off := 733) (tgt := 772) hx hb dL_law_39 (by decide) (by decide) (by decide) (by decide) (lwc_9 hLK c0 s0 hroom i hi5 hI hk)
    · exact lv_tableIn (off := 746) (tgt := 785) hx hb dL_law_39 (by decide) (by decide) (by decide) (by decide) (lwc_10 hLK c0 s0 hroom i hi5 hI hk)
    · exact lv_tableIn (off := 759) (tgt := 798) hx hb dL_law_39 (by decide) (by decide) (by decide) (by decide) (lwc_11 hLK c0 s0 hroom i hi5 hI hk)
    · exact lv_tableIn (off := 827) (tgt := 866) hx hb dL_law_39 (by decide) (by decide) (by decide) (by decide) (lwc_12 hLK c0 s0 hroom i hi5 hI hk)
    · exact lv_tableIn (off := 883) (tgt := 922) hx hb dL_law_39 (by decide) (by decide) (by decide) (by decide) (lwc_13 hLK c0 s0 hroom i hi5 hI hk)
    · exact lv_tableIn (off := 939) (tgt := 978) hx hb dL_law_39 (by decide) (by decide) (by decide) (by decide) (lwc_14 hLK c0 s0 hroom i hi5 hI hk)
    · exact lv_tableIn (off := 995) (tgt := 1034) hx hb dL_law_39 (by decide) (by decide) (by decide) (by decide) (lwc_15 hLK c0 s0 hroom i hi5 hI hk)
    · exact lv_tableIn (off := 1008) (tgt := 1047) hx hb dL_law_39 (by decide) (by decide) (by decide) (by decide) (lwc_16 hLK c0 s0 hroom i hi5 hI hk)
    · exact lv_tableIn (off := 1076) (tgt := 1115) hx hb dL_law_39 (by decide) (by decide) (by decide) (by decide) (lwc_17 hLK c0 s0 hroom i hi5 hI hk)
    · exact lv_tableIn (off := 1144) (tgt := 1183) hx hb dL_law_39 (by decide) (by decide) (by decide) (by decide) (lwc_18 hLK c0 s0 hroom i hi5 hI hk)
    · exact lv_tableIn (off := 1212) (tgt := 1251) hx hb dL_law_39 (by decide) (by decide) (by decide) (by decide) (lwc_19 hLK c0 s0 hroom i hi5 hI hk)
    · exact lv_tableIn (off := 1225) (tgt := 1264) hx hb dL_law_39 (by decide) (by decide) (by decide) (by decide) (lwc_20 hLK c0 s0 hroom i hi5 hI hk)
    · exact lv_tableIn (off := 1238) (tgt := 1277) hx hb dL_law_39 (by decide) (by decide) (by decide) (by decide) (lwc_21 hLK c0 s0 hroom i hi5 hI hk)
    · exact lv_tableIn (off := 1251) (tgt := 1290) hx hb dL_law_39 (by decide) (by decide) (by decide) (by decide) (lwc_22 hLK c0 s0 hroom i hi5 hI hk)
    · exact lv_tableIn (off := 1264) (tgt := 1303) hx hb dL_law_39 (by decide) (by decide) (by decide) (by decide) (lwc_23 hLK c0 s0 hroom i hi5 hI hk)
    · exact lv_tableIn (off := 1277) (tgt := 1316) hx hb dL_law_39 (by decide) (by decide) (by decide) (by decide) (lwc_24 hLK c0 s0 hroom i hi5 hI hk)
    · exact lv_tableIn (off := 1333) (tgt := 1372) hx hb dL_law_39 (by decide) (by decide) (by decide) (by decide) (lwc_25 hLK c0 s0 hroom i hi5 hI hk)
    · exact lv_tableIn (off := 1389) (tgt := 1428) hx hb dL_law_39 (by decide) (by decide) (by decide) (by decide) (lwc_26 hLK c0 s0 hroom i hi5 hI hk)
    · exact lv_tableIn (off := 1477) (tgt := 1516) hx hb dL_law_39 (by decide) (by decide) (by decide) (by decide) (lwc_27 hLK c0 s0 hroom i hi5 hI hk)
    · exact lv_tableIn (off := 1490) (tgt := 1529) hx hb dL_law_39 (by decide) (by decide) (by decide) (by decide) (lwc_28 hLK c0 s0 hroom i hi5 hI hk)
    · exact lv_tableIn (off := 1503) (tgt := 1542) hx hb dL_law_39 (by decide) (by decide) (by decide) (by decide) (lwc_29 hLK c0 s0 hroom i hi5 hI hk)
    · exact lv_tableIn (off := 1516) (tgt := 1555) hx hb dL_law_39 (by decide) (by decide) (by decide) (by decide) (lwc_30 hLK c0 s0 hroom i hi5 hI hk)
    · exact lv_tableIn (off := 1560) (tgt := 1599) hx hb dL_law_39 (by decide) (by decide) (by decide) (by decide) (lwc_31 hLK c0 s0 hroom i hi5 hI hk)
    · exact lv_tableIn (off := 1604) (tgt := 1643) hx hb dL_law_39 (by decide) (by decide) (by decide) (by decide) (lwc_32 hLK c0 s0 hroom i hi5 hI hk)
    · exact lv_tableIn (off := 1617) (tgt := 1656) hx hb dL_law_39 (by decide) (by decide) (by decide) (by decide) (lwc_33 hLK c0 s0 hroom i hi5 hI hk)
    · exact lv_tableIn (off := 1673) (tgt := 1712) hx hb dL_law_39 (by decide) (by decide) (by decide) (by decide) (lwc_34 hLK c0 s0 hroom i hi5 hI hk)
  · refine lv_tableOut (tgt := 1768) hx hb dL_law_39 (Or.inr ?_) (by decide) ?_
    · rw [nI_i, iI_toInt (by omega) (by omega)]; omega
    · exact W.widen (k := c0 + 1) (n := s0 + 6) (by omega) (by omega) (hk H locs ls hI)
theorem lt_iI {a b : Int} (h1 : -2147483648 ≤ a) (h2 : a < 2147483648) (h3 : -2147483648 ≤ b) (h4 : b < 2147483648) : iI a < iI b ↔ a < b := by
  rw [Int32.lt_iff_toInt_lt, iI_toInt h1 h2, iI_toInt h3 h4]
theorem lw_loop {pg : Program} {l : Launch} {ev : Env} {s : State} {m : MethodId} {below : List Frame} {meth : Method} {c : Code} {Q : State → Prop} {G : GT} {bq L : Nat} {xs : Nat → Int32} (hLK : LK pg l s m meth c bq L xs G) {a : Nat → Nat} {oa mh m1 m2 m3 m4 m5 : Nat}
    (hend : ∀ (H : Heap) (locs : List Loc) (ls : Array Slot), va_S (lo G) s.heap H locs → W pg l ev room_1 s m #[Value.ref bq] below meth c H locs 601024 7293034 Q (F0 m 1774 ls [])) :
    ∀ (n i c0 s0 : Nat) (H : Heap) (locs : List Loc) (ls : Array Slot), L < i + 5 * n + 5 → i ≤ L → c0 + n ≤ 601024 → s0 + 6 * n ≤ 7293034 → INV G a oa mh m1 m2 m3 m4 m5 bq s i H locs ls → W pg l ev room_1 s m #[Value.ref bq] below meth c H locs c0 s0 Q (F0 m 23 ls []) := by
  intro n
  induction n with
  | zero =>
    intro i c0 s0 H locs ls hn hi hc hs hI
    obtain ⟨mo, ki, pr, df, co, bi, g9, lr, bf, nx, hv, v0, k0, v1, k1, of, ss, hi9, sl, tx, ne, th, kn, ke, le, sp, wr, si, on, tw, dn, k, o, hP, hD, hS, hl, hR⟩ := hI
    obtain ⟨hx, hb, hml, hown, hts, hX, hbl, hCX, hgB, hfl, hL9⟩ := hLK
    have hbA : ¬ lo G bq := by show ¬ gB G ≤ bq; rw [hgB]; omega
    refine lv_iload hx hb dL_law_23 (lv_at hl 4 rfl) ?_
    refine lv_aload_n hx hb dL_law_25 rfl (lv_at hl 0 rfl) ?_
    refine va_slen hx hb hX hbl hbA hS dL_law_26 ?_
    refine lv_iconst (v := nI (5)) hx hb dL_law_27 (by decide) ?_
    refine gSub (z := iI ((L : Int) - 5)) hx hb dL_law_28 (by show nI L - nI 5 = _; rw [nI_i, nI_i, iI_sub]; rfl) ?_
    refine lv_icmp_gt (tgt := 1774) hx hb dL_law_29 (by decide) (fun h => ?_) (fun h => ?_)
    · exact W.widen (k := 601024) (n := 7293034) (by omega) (by omega) (hend H locs ls hS)
    · rw [nI_i, lt_iI (by omega) (by omega) (by omega) (by omega)] at h
      omega
  | succ n ih =>
    intro i c0 s0 H locs ls hn hi hc hs hI
    have hI0 := hI
    obtain ⟨mo, ki, pr, df, co, bi, g9, lr, bf, nx, hv, v0, k0, v1, k1, of, ss, hi9, sl, tx, ne, th, kn, ke, le, sp, wr, si, on, tw, dn, k, o, hP, hD, hS, hl, hR⟩ := hI0
    have hLK0 := hLK
    obtain ⟨hx, hb, hml, hown, hts, hX, hbl, hCX, hgB, hfl, hL9⟩ := hLK0
    have hbA : ¬ lo G bq := by show ¬ gB G ≤ bq; rw [hgB]; omega
    refine lv_iload hx hb dL_law_23 (lv_at hl 4 rfl) ?_
    refine lv_aload_n hx hb dL_law_25 rfl (lv_at hl 0 rfl) ?_
    refine va_slen hx hb hX hbl hbA hS dL_law_26 ?_
    refine lv_iconst (v := nI (5)) hx hb dL_law_27 (by decide) ?_
    refine gSub (z := iI ((L : Int) - 5)) hx hb dL_law_28 (by show nI L - nI 5 = _; rw [nI_i, nI_i, iI_sub]; rfl) ?_
    refine lv_icmp_gt (tgt := 1774) hx hb dL_law_29 (by decide) (fun h => ?_) (fun h => ?_)
    · exact W.widen (k := 601024) (n := 7293034) (by omega) (by omega) (hend H locs ls hS)
    · rw [nI_i, lt_iI (by omega) (by omega) (by omega) (by omega)] at h
      have hi5 : i + 5 ≤ L := by omega
      refine lw_step hLK c0 s0 ⟨by omega, by omega⟩ i hi5 hI (fun H locs ls hI => ?_)
      obtain ⟨mo, ki, pr, df, co, bi, g9, lr, bf, nx, hv, v0, k0, v1, k1, of, ss, hi9, sl, tx, ne, th, kn, ke, le, sp, wr, si, on, tw, dn, k, o, hP, hD, hS, hl, hR⟩ := hI
      refine lv_iinc (v := nI (i + 5)) (lv' := [(4, .int (nI (i + 5))), (0, .ref bq), (1, .ref (a 0)), (2, .ref mh), (3, .ref oa)]) hx hb dL_law_1768 hl (k := 4) rfl (inc_p i 5) (by decide) rfl (fun ls hl => ?_)
      refine lv_goto (tgt := 23) hx hb dL_law_1771 (by decide) ?_
      exact ih (i + 5) (c0 + 1) (s0 + 6) H locs ls (by omega) (by omega) (by omega) (by omega) ⟨mo, ki, pr, df, co, bi, g9, lr, bf, nx, hv, v0, k0, v1, k1, of, ss, hi9, sl, tx, ne, th, kn, ke, le, sp, wr, si, on, tw, dn, k, o, hP, hD, hS, lv_sub hl [1, 2, 3, 4, 0] rfl, hR⟩
