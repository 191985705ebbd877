/-! ===== the object's methods that write its plan, as the law uses them ===== -/
set_option maxHeartbeats 4000000 in
set_option maxRecDepth 100000 in
theorem o_bitsNext {l : Launch} {G : GT} {H0 : Heap} (a : Nat → Nat) (v : SVT) (j : JT) (hv : OKS v) (hpi : sPi v ≤ 999) (hj : OKJ j) (hP0 : PP G (oW G a v j) H0) (hB0 : va_D (lo G) (oW G a v j)) : Met l yX8_bitsNext wsX8_bitsNext ({ frames := 4, cells := 0, slots := 0, locals := 99 } : Room) (pcG G [.ref (a 0)] H0) (qMi G (fun (r : Int32) (u : JT) => r = nI (BITS v) ∧ OKJ u ∧ jH u = jH j) (fun (u : JT) => oW G a v u) (oW G a v j) H0) 0 0 (va_A (oW G a v j) H0.size) := by
  obtain ⟨⟨mo, ki, pr, df, co, bi⟩, ⟨g9, lr, bf⟩, ⟨tn, ln⟩, ⟨nx, ct, hh⟩, ⟨v0, k0, v1, k1⟩⟩ := j
  obtain ⟨hd, ht, hg, hk, hbu, hkd⟩ := hv
  obtain ⟨hmo, hdf, hnx, hct⟩ := hj
  have e0 : ∀ (mo ki : Nat → Nat) (pr df : Nat → Int) (co : Int32) (bi : Nat) (g9 : Nat → Int32) (lr : Nat), oW G a v ((mo, ki, pr, df, co, bi), (g9, lr, bf), (tn, ln), (nx, ct, hh), (v0, k0, v1, k1)) = y3W G a v mo ki pr df co bi g9 lr bf tn ln ++ (hsW G a nx ct hh ++ rrW G a v0 k0 v1 k1) := fun _ _ _ _ _ _ _ _ => xW_y3 ..
  rw [e0] at hP0 hB0 ⊢
  by_cases hkey : sPi v % sKd v = 0
  · refine metG (metFr hP0 hB0 (c_X8_bitsNext_k a v mo ki pr df co bi g9 lr bf tn ln hkd hpi hkey (pre_P hP0) (pre_D hB0)) pcG_heap) pcG_heap (by decide) ⟨Nat.le_refl _, Nat.le_refl _⟩ (fun _ h => h) (fun r u H1 _ hp h1 => ⟨((mo, fzK ki 4, pr, df, iI (-1), 264), (g9, lr, bf), (tn, ln), (nx, ct, hh), (v0, k0, v1, k1)), ⟨?_, ⟨hmo, hdf, hnx, hct⟩, rfl⟩, ?_⟩)
    · rw [show r = _ from hp]; unfold BITS; rw [if_pos hkey]
    · show PP G (oW G a v _) H1; rw [e0]; exact h1
  · refine metG (metFr hP0 hB0 (c_X8_bitsNext_n a v mo ki pr df co bi g9 lr bf tn ln hd ht hdf hmo hkd hpi hkey hbu (pre_P hP0) (pre_D hB0)) pcG_heap) pcG_heap (by decide) ⟨Nat.le_refl _, Nat.le_refl _⟩ (fun _ h => h) (fun r u H1 _ hp h1 => ⟨((BEST v.1 v.2.1, knN v.1 v.2.1 v.2.2.2.2.2.1, pN v.1 v.2.1, dN v.1 v.2.1, nI (COM v.1 v.2.1 v.2.2.2.2.2.1), ABM v.1 v.2.1 (COM v.1 v.2.1 v.2.2.2.2.2.1) 4), (g9, lr, bf), (tn, ln), (nx, ct, hh), (v0, k0, v1, k1)), ⟨?_, ⟨BEST_M _ _, dN_D hd ht, hnx, hct⟩, rfl⟩, ?_⟩)
    · rw [show r = _ from hp]; unfold BITS; rw [if_neg hkey]
    · show PP G (oW G a v _) H1; rw [e0]; exact h1
set_option maxHeartbeats 4000000 in
set_option maxRecDepth 100000 in
theorem o_coarsenessNext {l : Launch} {G : GT} {H0 : Heap} (a : Nat → Nat) (v : SVT) (j : JT) (hv : OKS v) (hpi : sPi v ≤ 999) (hj : OKJ j) (hP0 : PP G (oW G a v j) H0) (hB0 : va_D (lo G) (oW G a v j)) : Met l yX8_coarsenessNext wsX8_coarsenessNext ({ frames := 4, cells := 0, slots := 0, locals := 99 } : Room) (pcG G [.ref (a 0)] H0) (qMi G (fun (r : Int32) (u : JT) => r = iI (COAR v) ∧ OKJ u ∧ jH u = jH j) (fun (u : JT) => oW G a v u) (oW G a v j) H0) 0 0 (va_A (oW G a v j) H0.size) := by
  obtain ⟨⟨mo, ki, pr, df, co, bi⟩, ⟨g9, lr, bf⟩, ⟨tn, ln⟩, ⟨nx, ct, hh⟩, ⟨v0, k0, v1, k1⟩⟩ := j
  obtain ⟨hd, ht, hg, hk, hbu, hkd⟩ := hv
  obtain ⟨hmo, hdf, hnx, hct⟩ := hj
  have e0 : ∀ (mo ki : Nat → Nat) (pr df : Nat → Int) (co : Int32) (bi : Nat) (g9 : Nat → Int32) (lr : Nat), oW G a v ((mo, ki, pr, df, co, bi), (g9, lr, bf), (tn, ln), (nx, ct, hh), (v0, k0, v1, k1)) = y3W G a v mo ki pr df co bi g9 lr bf tn ln ++ (hsW G a nx ct hh ++ rrW G a v0 k0 v1 k1) := fun _ _ _ _ _ _ _ _ => xW_y3 ..
  rw [e0] at hP0 hB0 ⊢
  by_cases hkey : sPi v % sKd v = 0
  · refine metG (metFr hP0 hB0 (c_X8_coarsenessNext_k a v mo ki pr df co bi g9 lr bf tn ln hkd hpi hkey (pre_P hP0) (pre_D hB0)) pcG_heap) pcG_heap (by decide) ⟨Nat.le_refl _, Nat.le_refl _⟩ (fun _ h => h) (fun r u H1 _ hp h1 => ⟨((mo, fzK ki 4, pr, df, iI (-1), 264), (g9, lr, bf), (tn, ln), (nx, ct, hh), (v0, k0, v1, k1)), ⟨?_, ⟨hmo, hdf, hnx, hct⟩, rfl⟩, ?_⟩)
    · rw [show r = _ from hp]; unfold COAR; rw [if_pos hkey]
    · show PP G (oW G a v _) H1; rw [e0]; exact h1
  · refine metG (metFr hP0 hB0 (c_X8_coarsenessNext_n a v mo ki pr df co bi g9 lr bf tn ln hd ht hdf hmo hkd hpi hkey hbu (pre_P hP0) (pre_D hB0)) pcG_heap) pcG_heap (by decide) ⟨Nat.le_refl _, Nat.le_refl _⟩ (fun _ h => h) (fun r u H1 _ hp h1 => ⟨((BEST v.1 v.2.1, knN v.1 v.2.1 v.2.2.2.2.2.1, pN v.1 v.2.1, dN v.1 v.2.1, nI (COM v.1 v.2.1 v.2.2.2.2.2.1), ABM v.1 v.2.1 (COM v.1 v.2.1 v.2.2.2.2.2.1) 4), (g9, lr, bf), (tn, ln), (nx, ct, hh), (v0, k0, v1, k1)), ⟨?_, ⟨BEST_M _ _, dN_D hd ht, hnx, hct⟩, rfl⟩, ?_⟩)
    · rw [show r = _ from hp, nI_i]; unfold COAR; rw [if_neg hkey]
    · show PP G (oW G a v _) H1; rw [e0]; exact h1
set_option maxHeartbeats 4000000 in
set_option maxRecDepth 100000 in
theorem o_kindWith {l : Launch} {G : GT} {H0 : Heap} (a : Nat → Nat) (v : SVT) (j : JT) (b q : Nat) (hv : OKS v) (hb4 : b < 4) (hq : 1 ≤ q ∧ q ≤ 8) (hj : OKJ j) (hP0 : PP G (oW G a v j) H0) (hB0 : va_D (lo G) (oW G a v j)) : Met l yX8_kindWith wsX8_kindWith ({ frames := 3, cells := 0, slots := 0, locals := 77 } : Room) (pcG G [.ref (a 0), .int (nI b), .int (nI q)] H0) (qMi G (fun (r : Int32) (u : JT) => r = nI (KDM v.1 v.2.1 b q) ∧ OKJ u ∧ jH u = jH j) (fun (u : JT) => oW G a v u) (oW G a v j) H0) 0 0 (va_A (oW G a v j) H0.size) := by
  obtain ⟨⟨mo, ki, pr, df, co, bi⟩, ⟨g9, lr, bf⟩, ⟨tn, ln⟩, ⟨nx, ct, hh⟩, ⟨v0, k0, v1, k1⟩⟩ := j
  obtain ⟨hd, ht, hg, hk, hbu, hkd⟩ := hv
  obtain ⟨hmo, hdf, hnx, hct⟩ := hj
  have e0 : ∀ (mo ki : Nat → Nat) (pr df : Nat → Int) (co : Int32) (bi : Nat) (g9 : Nat → Int32) (lr : Nat), oW G a v ((mo, ki, pr, df, co, bi), (g9, lr, bf), (tn, ln), (nx, ct, hh), (v0, k0, v1, k1)) = y3W G a v mo ki pr df co bi g9 lr bf tn ln ++ (hsW G a nx ct hh ++ rrW G a v0 k0 v1 k1) := fun _ _ _ _ _ _ _ _ => xW_y3 ..
  rw [e0] at hP0 hB0 ⊢
  refine metG (metFr hP0 hB0 (c_X8_kindWith a v mo ki pr df co bi g9 lr bf tn ln b q hd ht hdf hmo hb4 hq (pre_P hP0) (pre_D hB0)) pcG_heap) pcG_heap (by decide) ⟨Nat.le_refl _, Nat.le_refl _⟩ (fun _ h => h) (fun r u H1 _ hp h1 => ⟨((va_up mo b (BEST v.1 v.2.1 b), va_up ki b (kdW ((va_up mo b (BEST v.1 v.2.1 b)) b) (LB (fdS v.1 v.2.1 b (BEST v.1 v.2.1 b) df 16) b q 16)), fpS v.2.1 b (BEST v.1 v.2.1 b) pr 16, fdS v.1 v.2.1 b (BEST v.1 v.2.1 b) df 16, co, bi), (g9, lr, bf), (tn, ln), (nx, ct, hh), (v0, k0, v1, k1)), ⟨?_, ⟨M25_up hmo b (BEST_lt _ _ _), fdS_D hd ht hdf 16, hnx, hct⟩, rfl⟩, ?_⟩)
  · exact hp
  · show PP G (oW G a v _) H1; rw [e0]; exact h1
set_option maxHeartbeats 4000000 in
set_option maxRecDepth 100000 in
theorem o_bitsWith {l : Launch} {G : GT} {H0 : Heap} (a : Nat → Nat) (v : SVT) (j : JT) (b q : Nat) (hv : OKS v) (hb4 : b < 4) (hq : 1 ≤ q ∧ q ≤ 8) (hj : OKJ j) (hP0 : PP G (oW G a v j) H0) (hB0 : va_D (lo G) (oW G a v j)) : Met l yX8_bitsWith wsX8_bitsWith ({ frames := 3, cells := 0, slots := 0, locals := 77 } : Room) (pcG G [.ref (a 0), .int (nI b), .int (nI q)] H0) (qMi G (fun (r : Int32) (u : JT) => r = nI (BTM v.1 v.2.1 b q) ∧ OKJ u ∧ jH u = jH j) (fun (u : JT) => oW G a v u) (oW G a v j) H0) 0 0 (va_A (oW G a v j) H0.size) := by
  obtain ⟨⟨mo, ki, pr, df, co, bi⟩, ⟨g9, lr, bf⟩, ⟨tn, ln⟩, ⟨nx, ct, hh⟩, ⟨v0, k0, v1, k1⟩⟩ := j
  obtain ⟨hd, ht, hg, hk, hbu, hkd⟩ := hv
  obtain ⟨hmo, hdf, hnx, hct⟩ := hj
  have e0 : ∀ (mo ki : Nat → Nat) (pr df : Nat → Int) (co : Int32) (bi : Nat) (g9 : Nat → Int32) (lr : Nat), oW G a v ((mo, ki, pr, df, co, bi), (g9, lr, bf), (tn, ln), (nx, ct, hh), (v0, k0, v1, k1)) = y3W G a v mo ki pr df co bi g9 lr bf tn ln ++ (hsW G a nx ct hh ++ rrW G a v0 k0 v1 k1) := fun _ _ _ _ _ _ _ _ => xW_y3 ..
  rw [e0] at hP0 hB0 ⊢
  refine metG (metFr hP0 hB0 (c_X8_bitsWith a v mo ki pr df co bi g9 lr bf tn ln b q hd ht hdf hmo hb4 hq (pre_P hP0) (pre_D hB0)) pcG_heap) pcG_heap (by decide) ⟨Nat.le_refl _, Nat.le_refl _⟩ (fun _ h => h) (fun r u H1 _ hp h1 => ⟨((va_up mo b (BEST v.1 v.2.1 b), va_up ki b (kdW ((va_up mo b (BEST v.1 v.2.1 b)) b) (LB (fdS v.1 v.2.1 b (BEST v.1 v.2.1 b) df 16) b q 16)), fpS v.2.1 b (BEST v.1 v.2.1 b) pr 16, fdS v.1 v.2.1 b (BEST v.1 v.2.1 b) df 16, co, bi), (g9, lr, bf), (tn, ln), (nx, ct, hh), (v0, k0, v1, k1)), ⟨?_, ⟨M25_up hmo b (BEST_lt _ _ _), fdS_D hd ht hdf 16, hnx, hct⟩, rfl⟩, ?_⟩)
  · exact hp
  · show PP G (oW G a v _) H1; rw [e0]; exact h1
set_option maxHeartbeats 4000000 in
set_option maxRecDepth 100000 in
theorem o_bitsByWriting {l : Launch} {G : GT} {H0 : Heap} (a : Nat → Nat) (v : SVT) (j : JT) (b q : Nat) (hv : OKS v) (hb4 : b < 4) (hq : 1 ≤ q ∧ q ≤ 8) (hj : OKJ j) (hP0 : PP G (oW G a v j) H0) (hB0 : va_D (lo G) (oW G a v j)) : Met l yX8_bitsByWriting wsX8_bitsByWriting ({ frames := 4, cells := 0, slots := 0, locals := 95 } : Room) (pcG G [.ref (a 0), .int (nI b), .int (nI q)] H0) (qMi G (fun (r : Int32) (u : JT) => r = nI (BTM v.1 v.2.1 b q) ∧ OKJ u ∧ jH u = jH j) (fun (u : JT) => oW G a v u) (oW G a v j) H0) 0 0 (va_A (oW G a v j) H0.size) := by
  obtain ⟨⟨mo, ki, pr, df, co, bi⟩, ⟨g9, lr, bf⟩, ⟨tn, ln⟩, ⟨nx, ct, hh⟩, ⟨v0, k0, v1, k1⟩⟩ := j
  obtain ⟨hd, ht, hg, hk, hbu, hkd⟩ := hv
  obtain ⟨hmo, hdf, hnx, hct⟩ := hj
  have e0 : ∀ (mo ki : Nat → Nat) (pr df : Nat → Int) (co : Int32) (bi : Nat) (g9 : Nat → Int32) (lr : Nat), oW G a v ((mo, ki, pr, df, co, bi), (g9, lr, bf), (tn, ln), (nx, ct, hh), (v0, k0, v1, k1)) = y3W G a v mo ki pr df co bi g9 lr bf tn ln ++ (hsW G a nx ct hh ++ rrW G a v0 k0 v1 k1) := fun _ _ _ _ _ _ _ _ => xW_y3 ..
  rw [e0] at hP0 hB0 ⊢
  refine metG (metFr hP0 hB0 (c_X8_bitsByWriting a v mo ki pr df co bi g9 lr bf tn ln b q hd ht hdf hmo hb4 hq (pre_P hP0) (pre_D hB0)) pcG_heap) pcG_heap (by decide) ⟨Nat.le_refl _, Nat.le_refl _⟩ (fun _ h => h) (fun r u H1 _ hp h1 => ⟨((va_up mo b (BEST v.1 v.2.1 b), ki, fpS v.2.1 b (BEST v.1 v.2.1 b) pr 16, fdS v.1 v.2.1 b (BEST v.1 v.2.1 b) df 16, co, bi), (u.1, u.2, bf), (tn, ln), (nx, ct, hh), (v0, k0, v1, k1)), ⟨?_, ⟨M25_up hmo b (BEST_lt _ _ _), fdS_D hd ht hdf 16, hnx, hct⟩, rfl⟩, ?_⟩)
  · exact hp
  · show PP G (oW G a v _) H1; rw [e0]; exact h1
theorem rc_back {h : HT} {v : SVT} (h1 : h.1 < 6) : (rcH h v).2.2 (((rcH h v).1 + 6 - 1) % 6) = v := by
  have e : ((rcH h v).1 + 6 - 1) % 6 = h.1 := by show (((h.1 + 1) % 6) + 6 - 1) % 6 = h.1; omega
  rw [e]; exact va_up_self _ _ _
def rbH (h : HT) (v : SVT) : HT := (h.1, min (h.2.1 + 1) 6 - 1, va_up h.2.2 h.1 v)
set_option maxHeartbeats 4000000 in
set_option maxRecDepth 100000 in
theorem o_undo {l : Launch} {G : GT} {H0 : Heap} (a : Nat → Nat) (v : SVT) (j : JT) (h : HT) (w : SVT) (h1 : h.1 < 6) (hj : OKJ j) (hjh : jH j = rcH h w) (hP0 : PP G (oW G a v j) H0) (hB0 : va_D (lo G) (oW G a v j)) : Met l yX8_undo wsX8_undo ({ frames := 4, cells := 0, slots := 0, locals := 88 } : Room) (pcG G [.ref (a 0)] H0) (qMi G (fun (r : Int32) (u : JT) => r = nI (min (h.2.1 + 1) 6 - 1) ∧ OKJ u ∧ jH u = rbH h w) (fun (u : JT) => oW G a w u) (oW G a v j) H0) 0 0 (va_A (oW G a v j) H0.size) := by
  obtain ⟨⟨mo, ki, pr, df, co, bi⟩, ⟨g9, lr, bf⟩, ⟨tn, ln⟩, ⟨nx, ct, hh⟩, ⟨v0, k0, v1, k1⟩⟩ := j
  obtain ⟨hmo, hdf, hnx, hct⟩ := hj
  have q1 : nx = (h.1 + 1) % 6 := congrArg Prod.fst hjh
  have q2 : ct = min (h.2.1 + 1) 6 := congrArg (fun z : HT => z.2.1) hjh
  have q3 : hh = va_up h.2.2 h.1 w := congrArg (fun z : HT => z.2.2) hjh
  have e1 : (nx + 6 - 1) % 6 = h.1 := by omega
  have e2 : hh ((nx + 6 - 1) % 6) = w := by rw [e1, q3]; exact va_up_self _ _ _
  refine metG (c_X8_undo a v mo ki pr df co bi g9 lr bf tn ln nx ct hh v0 k0 v1 k1 hnx (by omega) hP0 hB0) pcG_heap (by decide) ⟨Nat.le_refl _, Nat.le_refl _⟩ (fun _ h => h) (fun r u H1 _ hp h9 => ⟨((mo, ki, pr, df, co, bi), (g9, lr, bf), (tn, ln), ((nx + 6 - 1) % 6, ct - 1, hh), (v0, k0, v1, k1)), ⟨?_, ⟨hmo, hdf, ?_, ?_⟩, ?_⟩, ?_⟩)
  · rw [show r = _ from hp, q2]
  · show (nx + 6 - 1) % 6 < 6; omega
  · show ct - 1 ≤ 6; omega
  · show ((nx + 6 - 1) % 6, ct - 1, hh) = rbH h w; rw [e1, q2, q3]; rfl
  · have h8 : PP G (xW G a (hh ((nx + 6 - 1) % 6)) mo ki pr df co bi g9 lr bf tn ln ((nx + 6 - 1) % 6) (ct - 1) hh v0 k0 v1 k1) H1 := h9
    rw [e2] at h8
    exact h8
/-! ===== the changes: what is thrown, what is answered, what the object is then ===== -/
def chT (how : Nat) (x y z : Int32) : Nat := match how with
  | 0 => if 0 ≤ x.toInt ∧ x.toInt < 64 then (if 0 ≤ y.toInt ∧ y.toInt ≤ 15 then 0 else 2) else 1
  | 1 => if 0 ≤ x.toInt ∧ x.toInt < 64 then (if (1 ≤ y.toInt ∧ y.toInt ≤ 8) ∧ (1 ≤ (z / nI 100).toInt ∧ (z / nI 100).toInt ≤ 8) ∧ (0 ≤ (z - z / nI 100 * nI 100).toInt ∧ (z - z / nI 100 * nI 100).toInt ≤ 15) then 0 else 2) else 1
  | 2 => if (-2 ≤ x.toInt ∧ x.toInt ≤ 2) ∧ (-2 ≤ y.toInt ∧ y.toInt ≤ 2) then 0 else 2
  | 3 => 0
  | 4 => if 4 ≤ x.toInt ∧ x.toInt ≤ 300 then 0 else 2
  | _ => if 1 ≤ x.toInt ∧ x.toInt ≤ 20 then 0 else 2
def sndK (lost : Nat) (v : SVT) (mo : Nat → Nat) : SVT := (sD v, sD v, (match lost with | 0 => sD v | _ => sG v), fun _ => 0, mo, sBu v, sKd v, sPi v + 1, sLo v + lost, sBi v + 264)
def sndN (lost : Nat) (v : SVT) : SVT := (sD v, nT (sD v) (sT v) (sBu v), (match lost with | 0 => nG (sD v) (sT v) (sG v) (sBu v) | _ => sG v), knN (sD v) (sT v) (sBu v), BEST (sD v) (sT v), sBu v, sKd v, sPi v + 1, sLo v + lost, sBi v + ABM (sD v) (sT v) (COM (sD v) (sT v) (sBu v)) 4)
def sndV (lost : Nat) (v : SVT) (mo : Nat → Nat) : SVT := if sPi v % sKd v = 0 then sndK lost v mo else sndN lost v
theorem chT0 (x y z : Int32) : chT 0 x y z = if 0 ≤ x.toInt ∧ x.toInt < 64 then (if 0 ≤ y.toInt ∧ y.toInt ≤ 15 then 0 else 2) else 1 := rfl
theorem chT1 (x y z : Int32) : chT 1 x y z = if 0 ≤ x.toInt ∧ x.toInt < 64 then (if (1 ≤ y.toInt ∧ y.toInt ≤ 8) ∧ (1 ≤ (z / nI 100).toInt ∧ (z / nI 100).toInt ≤ 8) ∧ (0 ≤ (z - z / nI 100 * nI 100).toInt ∧ (z - z / nI 100 * nI 100).toInt ≤ 15) then 0 else 2) else 1 := rfl
theorem chT2 (x y z : Int32) : chT 2 x y z = if (-2 ≤ x.toInt ∧ x.toInt ≤ 2) ∧ (-2 ≤ y.toInt ∧ y.toInt ≤ 2) then 0 else 2 := rfl
theorem chT4 (x y z : Int32) : chT 4 x y z = if 4 ≤ x.toInt ∧ x.toInt ≤ 300 then 0 else 2 := rfl
theorem chT5 (x y z : Int32) : chT 5 x y z = if 1 ≤ x.toInt ∧ x.toInt ≤ 20 then 0 else 2 := rfl
def chV (how : Nat) (x y z : Int32) (v : SVT) (mo : Nat → Nat) : SVT := match how with
  | 0 => (va_up (sD v) x.toInt.toNat y.toInt, v.2)
  | 1 => ((fillS (sD v) x.toInt.toNat y.toInt.toNat (z / nI 100).toInt.toNat (z - z / nI 100 * nI 100).toInt).1, v.2)
  | 2 => ((tkm (sD v) x.toInt y.toInt (sD v) 64).1, v.2)
  | 3 => sndV x.toInt.toNat v mo
  | 4 => (sD v, sT v, sG v, sK v, sM v, x.toInt.toNat, v.2.2.2.2.2.2)
  | _ => (sD v, sT v, sG v, sK v, sM v, sBu v, x.toInt.toNat, v.2.2.2.2.2.2.2)
def chR (how : Nat) (x y z : Int32) (v : SVT) : Int32 := match how with
  | 0 => iI (sD v x.toInt.toNat)
  | 1 => nI (fillS (sD v) x.toInt.toNat y.toInt.toNat (z / nI 100).toInt.toNat (z - z / nI 100 * nI 100).toInt).2
  | 2 => nI (tkm (sD v) x.toInt y.toInt (sD v) 64).2
  | 3 => nI (BITS v)
  | 4 => nI (sBu v)
  | _ => nI (sKd v)
abbrev CT3 : Type := SVT × JT × (Nat → Int32)
def CHP (how : Nat) (x y z : Int32) (v : SVT) (j : JT) (of : Nat → Int32) (r : Int32) (u : CT3) : Prop :=
  r = nI (chT how x y z) ∧ (chT how x y z = 0 → ∃ mo : Nat → Nat, M25 mo ∧ u.1 = chV how x y z v mo ∧ OKJ u.2.1 ∧ jH u.2.1 = rcH (jH j) v ∧ u.2.2 0 = chR how x y z v) ∧ (¬ chT how x y z = 0 → u = (v, j, of))
abbrev ouW (G : GT) (oa : Nat) (of : Nat → Int32) : va_W := [(oa, .inl (cI G, 1, .inl of))]
theorem i_of {x : Int32} (h : 0 ≤ x.toInt) : ∃ p : Nat, x = nI p ∧ (p : Int) = x.toInt := ⟨x.toInt.toNat, by rw [nI_i, Int.toNat_of_nonneg h]; exact (iI_self x).symm, Int.toNat_of_nonneg h⟩
theorem i_iI (x : Int32) : ∃ w : Int, x = iI w ∧ w = x.toInt := ⟨x.toInt, (iI_self x).symm, rfl⟩
theorem rc_ok {h : HT} {v : SVT} (h1 : h.1 < 6) : (rcH h v).1 < 6 ∧ (rcH h v).2.1 ≤ 6 := by
  refine ⟨?_, ?_⟩
  · show (h.1 + 1) % 6 < 6; omega
  · show min (h.2.1 + 1) 6 ≤ 6; omega
theorem met_eq {l : Launch} {y : MethodName} {W : List Cond} {rm : Room} {Pc Pc' : Array Value → State → Prop} {Q Q' : Array Value → State → Outcome → State → Prop} {mc ms : Nat} {F F' : Nat → Prop} (h : Met l y W rm Pc Q mc ms F) (e1 : Pc = Pc') (e2 : Q = Q') (e3 : F = F') : Met l y W rm Pc' Q' mc ms F' := by
  subst e1; subst e2; subst e3; exact h
theorem upd_0 (f : Nat → Int32) (x : Int32) : upd f 0 x 0 = x := by simp [upd]
set_option maxHeartbeats 4000000 in
set_option maxRecDepth 100000 in
theorem o_chg_0 {l : Launch} {G : GT} {H0 : Heap} (a : Nat → Nat) (v : SVT) (j : JT) (oa : Nat) (of : Nat → Int32) (x y z : Int32) (hv : OKS v) (hpi : sPi v < 999) (hj : OKJ j) (hfl : l.stackTraces = false) (hP0 : PP G (oW G a v j ++ ouW G oa of) H0) (hB0 : va_D (lo G) (oW G a v j ++ ouW G oa of)) : Met l yL_changes wsL_changes ({ frames := 8, cells := 1, slots := 6, locals := 142 } : Room) (pcX G [.ref (a 0), .int (nI 0), .int x, .int y, .int z, .ref oa] H0) (qMi G (CHP 0 x y z v j of) (fun (u : CT3) => oW G a u.1 u.2.1 ++ ouW G oa u.2.2) (oW G a v j ++ ouW G oa of) H0) 1 6 (va_A (oW G a v j ++ ouW G oa of) H0.size) := by
  obtain ⟨⟨mo, ki, pr, df, co, bi⟩, ⟨g9, lr, bf⟩, ⟨tn, ln⟩, ⟨nx, ct, hh⟩, ⟨v0, k0, v1, k1⟩⟩ := j
  have hj0 := hj
  obtain ⟨hd, ht, hg, hk, hbu, hkd⟩ := hv
  obtain ⟨hmo, hdf, hnx, hct⟩ := hj
  have hrc := rc_ok (h := (nx, ct, hh)) (v := v) hnx
  by_cases c1 : 0 ≤ x.toInt ∧ x.toInt < 64
  · obtain ⟨p, rfl, ep⟩ := i_of c1.1
    have hp64 : p < 64 := by omega
    by_cases c2 : 0 ≤ y.toInt ∧ y.toInt ≤ 15
    · have hc0 : chT 0 (nI p) y z = 0 := by rw [chT0, if_pos c1, if_pos c2]
      obtain ⟨w, rfl, ew⟩ := i_iI y
      have e1 : (nI p).toInt.toNat = p := by rw [← ep]; rfl
      have e2 : (va_up (sD v) (nI p).toInt.toNat (iI w).toInt, v.2) = (va_up (sD v) p w, v.2) := by rw [e1, ← ew]
      refine metG (c_L_chg_0 a v mo ki pr df co bi g9 lr bf tn ln nx ct hh v0 k0 v1 k1 oa of p w z hnx hct hp64 (by omega) hfl hP0 hB0) pcX_heap (by decide) (by decide) (fun _ h => h) (fun r u H1 _ hp h1 => ⟨((va_up (sD v) p w, v.2), ((mo, ki, pr, df, co, bi), (g9, lr, bf), (tn, ln), ((nx + 1) % 6, min (ct + 1) 6, va_up hh nx v), (v0, k0, v1, k1)), upd of 0 (iI (v.1 p))), ⟨?_, fun _ => ⟨mo, hmo, ?_, ⟨hmo, hdf, hrc.1, hrc.2⟩, rfl, ?_⟩, fun z9 => absurd hc0 z9⟩, ?_⟩)
      · rw [show r = _ from hp, hc0]
      · exact e2.symm
      · show upd of 0 (iI (v.1 p)) 0 = iI (sD v (nI p).toInt.toNat); rw [upd_0, e1]
      · exact h1
    · have hc0 : chT 0 (nI p) y z = 2 := by rw [chT0, if_pos c1, if_neg c2]
      refine metG (c_L_chg_0_x2 a v mo ki pr df co bi g9 lr bf tn ln nx ct hh v0 k0 v1 k1 oa of p y z hp64 (by omega) hfl hP0 hB0) pcX_heap (by decide) (by decide) (fun _ h => h) (fun r u H1 _ hp h1 => ⟨(v, ((mo, ki, pr, df, co, bi), (g9, lr, bf), (tn, ln), (nx, ct, hh), (v0, k0, v1, k1)), of), ⟨?_, fun z9 => absurd (z9.symm.trans hc0) (by decide), fun _ => rfl⟩, h1⟩)
      rw [show r = _ from hp, hc0]
  · have hc0 : chT 0 x y z = 1 := by rw [chT0, if_neg c1]
    refine metG (c_L_chg_0_x1 a v mo ki pr df co bi g9 lr bf tn ln nx ct hh v0 k0 v1 k1 oa of x y z (by omega) hfl hP0 hB0) pcX_heap (by decide) (by decide) (fun _ h => h) (fun r u H1 _ hp h1 => ⟨(v, ((mo, ki, pr, df, co, bi), (g9, lr, bf), (tn, ln), (nx, ct, hh), (v0, k0, v1, k1)), of), ⟨?_, fun z9 => absurd (z9.symm.trans hc0) (by decide), fun _ => rfl⟩, h1⟩)
    rw [show r = _ from hp, hc0]
set_option maxHeartbeats 4000000 in
set_option maxRecDepth 100000 in
theorem o_chg_1 {l : Launch} {G : GT} {H0 : Heap} (a : Nat → Nat) (v : SVT) (j : JT) (oa : Nat) (of : Nat → Int32) (x y z : Int32) (hv : OKS v) (hpi : sPi v < 999) (hj : OKJ j) (hfl : l.stackTraces = false) (hP0 : PP G (oW G a v j ++ ouW G oa of) H0) (hB0 : va_D (lo G) (oW G a v j ++ ouW G oa of)) : Met l yL_changes wsL_changes ({ frames := 8, cells := 1, slots := 6, locals := 142 } : Room) (pcX G [.ref (a 0), .int (nI 1), .int x, .int y, .int z, .ref oa] H0) (qMi G (CHP 1 x y z v j of) (fun (u : CT3) => oW G a u.1 u.2.1 ++ ouW G oa u.2.2) (oW G a v j ++ ouW G oa of) H0) 1 6 (va_A (oW G a v j ++ ouW G oa of) H0.size) := by
  obtain ⟨⟨mo, ki, pr, df, co, bi⟩, ⟨g9, lr, bf⟩, ⟨tn, ln⟩, ⟨nx, ct, hh⟩, ⟨v0, k0, v1, k1⟩⟩ := j
  have hj0 := hj
  obtain ⟨hd, ht, hg, hk, hbu, hkd⟩ := hv
  obtain ⟨hmo, hdf, hnx, hct⟩ := hj
  have hrc := rc_ok (h := (nx, ct, hh)) (v := v) hnx
  by_cases c1 : 0 ≤ x.toInt ∧ x.toInt < 64
  · obtain ⟨p, rfl, ep⟩ := i_of c1.1
    have hp64 : p < 64 := by omega
    by_cases c2 : 1 ≤ y.toInt ∧ y.toInt ≤ 8
    · obtain ⟨hg9, rfl, eh⟩ := i_of (x := y) (by omega)
      by_cases c3 : 1 ≤ (z / nI 100).toInt ∧ (z / nI 100).toInt ≤ 8
      · obtain ⟨ww, e3, ew⟩ := i_of (x := z / nI 100) (by omega)
        by_cases c4 : 0 ≤ (z - z / nI 100 * nI 100).toInt ∧ (z - z / nI 100 * nI 100).toInt ≤ 15
        · have hc0 : chT 1 (nI p) (nI hg9) z = 0 := by rw [chT1, if_pos c1, if_pos ⟨c2, c3, c4⟩]
          obtain ⟨w, e4, e5⟩ := i_iI (z - z / nI 100 * nI 100)
          have q1 : (nI p).toInt.toNat = p := by rw [← ep]; rfl
          have q2 : (nI hg9).toInt.toNat = hg9 := by rw [← eh]; rfl
          have q3 : (z / nI 100).toInt.toNat = ww := by rw [← ew]; rfl
          refine metG (c_L_chg_1 a v mo ki pr df co bi g9 lr bf tn ln nx ct hh v0 k0 v1 k1 oa of p hg9 ww w z hnx hct hp64 (by omega) (by omega) (by omega) hd e3 e4 hfl hP0 hB0) pcX_heap (by decide) (by decide) (fun _ h => h) (fun r u H1 _ hp h1 => ⟨(((fillS (sD v) p hg9 ww w).1, v.2), ((mo, ki, pr, df, co, bi), (g9, lr, bf), (tn, ln), ((nx + 1) % 6, min (ct + 1) 6, va_up hh nx v), (v0, k0, v1, k1)), upd of 0 (nI (fillS v.1 p hg9 ww w).2)), ⟨?_, fun _ => ⟨mo, hmo, ?_, ⟨hmo, hdf, hrc.1, hrc.2⟩, rfl, ?_⟩, fun z9 => absurd hc0 z9⟩, ?_⟩)
          · rw [show r = _ from hp, hc0]
          · show _ = ((fillS (sD v) (nI p).toInt.toNat (nI hg9).toInt.toNat (z / nI 100).toInt.toNat (z - z / nI 100 * nI 100).toInt).1, v.2); rw [q1, q2, q3, ← e5]
          · show upd of 0 (nI (fillS v.1 p hg9 ww w).2) 0 = nI (fillS (sD v) (nI p).toInt.toNat (nI hg9).toInt.toNat (z / nI 100).toInt.toNat (z - z / nI 100 * nI 100).toInt).2; rw [upd_0, q1, q2, q3, ← e5]
          · exact h1
        · have hc0 : chT 1 (nI p) (nI hg9) z = 2 := by rw [chT1, if_pos c1, if_neg (fun q => c4 q.2.2)]
          refine metG (c_L_chg_1_x2c a v mo ki pr df co bi g9 lr bf tn ln nx ct hh v0 k0 v1 k1 oa of p (nI hg9) (z / nI 100) (z - z / nI 100 * nI 100) z hp64 (by omega) (by omega) (by omega) rfl rfl hfl hP0 hB0) pcX_heap (by decide) (by decide) (fun _ h => h) (fun r u H1 _ hp h1 => ⟨(v, ((mo, ki, pr, df, co, bi), (g9, lr, bf), (tn, ln), (nx, ct, hh), (v0, k0, v1, k1)), of), ⟨?_, fun z9 => absurd (z9.symm.trans hc0) (by decide), fun _ => rfl⟩, h1⟩)
          rw [show r = _ from hp, hc0]
      · have hc0 : chT 1 (nI p) (nI hg9) z = 2 := by rw [chT1, if_pos c1, if_neg (fun q => c3 q.2.1)]
        refine metG (c_L_chg_1_x2b a v mo ki pr df co bi g9 lr bf tn ln nx ct hh v0 k0 v1 k1 oa of p (nI hg9) (z / nI 100) (z - z / nI 100 * nI 100) z hp64 (by omega) (by omega) rfl rfl hfl hP0 hB0) pcX_heap (by decide) (by decide) (fun _ h => h) (fun r u H1 _ hp h1 => ⟨(v, ((mo, ki, pr, df, co, bi), (g9, lr, bf), (tn, ln), (nx, ct, hh), (v0, k0, v1, k1)), of), ⟨?_, fun z9 => absurd (z9.symm.trans hc0) (by decide), fun _ => rfl⟩, h1⟩)
        rw [show r = _ from hp, hc0]
    · have hc0 : chT 1 (nI p) y z = 2 := by rw [chT1, if_pos c1, if_neg (fun q => c2 q.1)]
      refine metG (c_L_chg_1_x2a a v mo ki pr df co bi g9 lr bf tn ln nx ct hh v0 k0 v1 k1 oa of p y (z / nI 100) (z - z / nI 100 * nI 100) z hp64 (by omega) rfl rfl hfl hP0 hB0) pcX_heap (by decide) (by decide) (fun _ h => h) (fun r u H1 _ hp h1 => ⟨(v, ((mo, ki, pr, df, co, bi), (g9, lr, bf), (tn, ln), (nx, ct, hh), (v0, k0, v1, k1)), of), ⟨?_, fun z9 => absurd (z9.symm.trans hc0) (by decide), fun _ => rfl⟩, h1⟩)
      rw [show r = _ from hp, hc0]
  · have hc0 : chT 1 x y z = 1 := by rw [chT1, if_neg c1]
    refine metG (c_L_chg_1_x1 a v mo ki pr df co bi g9 lr bf tn ln nx ct hh v0 k0 v1 k1 oa of x y (z / nI 100) (z - z / nI 100 * nI 100) z (by omega) rfl rfl hfl hP0 hB0) pcX_heap (by decide) (by decide) (fun _ h => h) (fun r u H1 _ hp h1 => ⟨(v, ((mo, ki, pr, df, co, bi), (g9, lr, bf), (tn, ln), (nx, ct, hh), (v0, k0, v1, k1)), of), ⟨?_, fun z9 => absurd (z9.symm.trans hc0) (by decide), fun _ => rfl⟩, h1⟩)
    rw [show r = _ from hp, hc0]
set_option maxHeartbeats 4000000 in
set_option maxRecDepth 100000 in
theorem o_chg_2 {l : Launch} {G : GT} {H0 : Heap} (a : Nat → Nat) (v : SVT) (j : JT) (oa : Nat) (of : Nat → Int32) (x y z : Int32) (hv : OKS v) (hpi : sPi v < 999) (hj : OKJ j) (hfl : l.stackTraces = false) (hP0 : PP G (oW G a v j ++ ouW G oa of) H0) (hB0 : va_D (lo G) (oW G a v j ++ ouW G oa of)) : Met l yL_changes wsL_changes ({ frames := 8, cells := 1, slots := 6, locals := 142 } : Room) (pcX G [.ref (a 0), .int (nI 2), .int x, .int y, .int z, .ref oa] H0) (qMi G (CHP 2 x y z v j of) (fun (u : CT3) => oW G a u.1 u.2.1 ++ ouW G oa u.2.2) (oW G a v j ++ ouW G oa of) H0) 1 6 (va_A (oW G a v j ++ ouW G oa of) H0.size) := by
  obtain ⟨⟨mo, ki, pr, df, co, bi⟩, ⟨g9, lr, bf⟩, ⟨tn, ln⟩, ⟨nx, ct, hh⟩, ⟨v0, k0, v1, k1⟩⟩ := j
  have hj0 := hj
  obtain ⟨hd, ht, hg, hk, hbu, hkd⟩ := hv
  obtain ⟨hmo, hdf, hnx, hct⟩ := hj
  have hrc := rc_ok (h := (nx, ct, hh)) (v := v) hnx
  by_cases c1 : -2 ≤ x.toInt ∧ x.toInt ≤ 2
  · by_cases c2 : -2 ≤ y.toInt ∧ y.toInt ≤ 2
    · have hc0 : chT 2 x y z = 0 := by rw [chT2, if_pos ⟨c1, c2⟩]
      obtain ⟨dy, rfl, e1⟩ := i_iI x
      obtain ⟨dx, rfl, e2⟩ := i_iI y
      refine metG (c_L_chg_2 a v mo ki pr df co bi g9 lr bf tn ln nx ct hh v0 k0 v1 k1 oa of dy dx z hnx hct (by omega) (by omega) hd hfl hP0 hB0) pcX_heap (by decide) (by decide) (fun _ h => h) (fun r u H1 _ hp h1 => ⟨(((tkm (sD v) dy dx (sD v) 64).1, v.2), ((mo, ki, pr, df, co, bi), (g9, lr, v.1), (tn, ln), ((nx + 1) % 6, min (ct + 1) 6, va_up hh nx v), (v0, k0, v1, k1)), upd of 0 (nI (tkm v.1 dy dx v.1 64).2)), ⟨?_, fun _ => ⟨mo, hmo, ?_, ⟨hmo, hdf, hrc.1, hrc.2⟩, rfl, ?_⟩, fun z9 => absurd hc0 z9⟩, ?_⟩)
      · rw [show r = _ from hp, hc0]
      · show _ = ((tkm (sD v) (iI dy).toInt (iI dx).toInt (sD v) 64).1, v.2); rw [← e1, ← e2]
      · show upd of 0 (nI (tkm v.1 dy dx v.1 64).2) 0 = nI (tkm (sD v) (iI dy).toInt (iI dx).toInt (sD v) 64).2; rw [upd_0, ← e1, ← e2]
      · exact h1
    · have hc0 : chT 2 x y z = 2 := by rw [chT2, if_neg (fun q => c2 q.2)]
      refine metG (c_L_chg_2_x1b a v mo ki pr df co bi g9 lr bf tn ln nx ct hh v0 k0 v1 k1 oa of x y z c1 (by omega) hfl hP0 hB0) pcX_heap (by decide) (by decide) (fun _ h => h) (fun r u H1 _ hp h1 => ⟨(v, ((mo, ki, pr, df, co, bi), (g9, lr, bf), (tn, ln), (nx, ct, hh), (v0, k0, v1, k1)), of), ⟨?_, fun z9 => absurd (z9.symm.trans hc0) (by decide), fun _ => rfl⟩, h1⟩)
      rw [show r = _ from hp, hc0]
  · have hc0 : chT 2 x y z = 2 := by rw [chT2, if_neg (fun q => c1 q.1)]
    refine metG (c_L_chg_2_x1a a v mo ki pr df co bi g9 lr bf tn ln nx ct hh v0 k0 v1 k1 oa of x y z (by omega) hfl hP0 hB0) pcX_heap (by decide) (by decide) (fun _ h => h) (fun r u H1 _ hp h1 => ⟨(v, ((mo, ki, pr, df, co, bi), (g9, lr, bf), (tn, ln), (nx, ct, hh), (v0, k0, v1, k1)), of), ⟨?_, fun z9 => absurd (z9.symm.trans hc0) (by decide), fun _ => rfl⟩, h1⟩)
    rw [show r = _ from hp, hc0]
set_option maxHeartbeats 4000000 in
set_option maxRecDepth 100000 in
theorem o_chg_3 {l : Launch} {G : GT} {H0 : Heap} (a : Nat → Nat) (v : SVT) (j : JT) (oa : Nat) (of : Nat → Int32) (x y z : Int32) (hx3 : x = nI 0 ∨ x = nI 1) (hv : OKS v) (hpi : sPi v < 999) (hj : OKJ j) (hfl : l.stackTraces = false) (hP0 : PP G (oW G a v j ++ ouW G oa of) H0) (hB0 : va_D (lo G) (oW G a v j ++ ouW G oa of)) : Met l yL_changes wsL_changes ({ frames := 8, cells := 1, slots := 6, locals := 142 } : Room) (pcX G [.ref (a 0), .int (nI 3), .int x, .int y, .int z, .ref oa] H0) (qMi G (CHP 3 x y z v j of) (fun (u : CT3) => oW G a u.1 u.2.1 ++ ouW G oa u.2.2) (oW G a v j ++ ouW G oa of) H0) 1 6 (va_A (oW G a v j ++ ouW G oa of) H0.size) := by
  obtain ⟨⟨mo, ki, pr, df, co, bi⟩, ⟨g9, lr, bf⟩, ⟨tn, ln⟩, ⟨nx, ct, hh⟩, ⟨v0, k0, v1, k1⟩⟩ := j
  have hj0 := hj
  obtain ⟨hd, ht, hg, hk, hbu, hkd⟩ := hv
  obtain ⟨hmo, hdf, hnx, hct⟩ := hj
  have hrc := rc_ok (h := (nx, ct, hh)) (v := v) hnx
  rcases hx3 with rfl | rfl
  · skip
    have hc0 : chT 3 (nI 0) y z = 0 := rfl
    have el : (nI 0).toInt.toNat = 0 := by decide
    by_cases hkey : sPi v % sKd v = 0
    · have eb : BITS v = 264 := by unfold BITS; rw [if_pos hkey]
      have ev : sndV 0 v mo = (v.1, v.1, v.1, fun _ => 0, mo, v.2.2.2.2.2.1, v.2.2.2.2.2.2.1, v.2.2.2.2.2.2.2.1 + 1, v.2.2.2.2.2.2.2.2.1 + 0, v.2.2.2.2.2.2.2.2.2 + 264) := if_pos hkey
      refine metG (c_L_chg_3_k0 a v mo ki pr df co bi g9 lr bf tn ln nx ct hh v0 k0 v1 k1 oa of y z hnx hct hpi hkd (Nat.le_of_lt hpi) hkey hfl hP0 hB0) pcX_heap (by decide) (by decide) (fun _ h => h) (fun r u H1 _ hp h1 => ⟨((v.1, v.1, v.1, fun _ => 0, mo, v.2.2.2.2.2.1, v.2.2.2.2.2.2.1, v.2.2.2.2.2.2.2.1 + 1, v.2.2.2.2.2.2.2.2.1 + 0, v.2.2.2.2.2.2.2.2.2 + 264), ((mo, fzK ki 4, pr, df, iI (-1), 264), (g9, lr, v.2.2.1), (tn, ln), ((nx + 1) % 6, min (ct + 1) 6, va_up hh nx v), (v0, k0, v1, k1)), upd of 0 (nI 264)), ⟨?_, fun _ => ⟨mo, hmo, ?_, ⟨hmo, hdf, hrc.1, hrc.2⟩, rfl, ?_⟩, fun z9 => absurd hc0 z9⟩, ?_⟩)
      · rw [show r = _ from hp, hc0]
      · show _ = sndV (nI 0).toInt.toNat v mo; rw [el, ev]
      · show upd of 0 (nI 264) 0 = nI (BITS v); rw [upd_0, eb]
      · exact h1
    · have eb : BITS v = ABM v.1 v.2.1 (COM v.1 v.2.1 v.2.2.2.2.2.1) 4 := by unfold BITS; rw [if_neg hkey]
      have ev : sndV 0 v mo = (v.1, nT v.1 v.2.1 v.2.2.2.2.2.1, nG v.1 v.2.1 v.2.2.1 v.2.2.2.2.2.1, knN v.1 v.2.1 v.2.2.2.2.2.1, BEST v.1 v.2.1, v.2.2.2.2.2.1, v.2.2.2.2.2.2.1, v.2.2.2.2.2.2.2.1 + 1, v.2.2.2.2.2.2.2.2.1 + 0, v.2.2.2.2.2.2.2.2.2 + ABM v.1 v.2.1 (COM v.1 v.2.1 v.2.2.2.2.2.1) 4) := if_neg hkey
      refine metG (c_L_chg_3_n0 a v mo ki pr df co bi g9 lr bf tn ln nx ct hh v0 k0 v1 k1 oa of y z hnx hct hpi hd ht hg hdf hmo hkd (Nat.le_of_lt hpi) hkey hbu hfl hP0 hB0) pcX_heap (by decide) (by decide) (fun _ h => h) (fun r u H1 _ hp h1 => ⟨((v.1, nT v.1 v.2.1 v.2.2.2.2.2.1, nG v.1 v.2.1 v.2.2.1 v.2.2.2.2.2.1, knN v.1 v.2.1 v.2.2.2.2.2.1, BEST v.1 v.2.1, v.2.2.2.2.2.1, v.2.2.2.2.2.2.1, v.2.2.2.2.2.2.2.1 + 1, v.2.2.2.2.2.2.2.2.1 + 0, v.2.2.2.2.2.2.2.2.2 + ABM v.1 v.2.1 (COM v.1 v.2.1 v.2.2.2.2.2.1) 4), ((BEST v.1 v.2.1, knN v.1 v.2.1 v.2.2.2.2.2.1, pN v.1 v.2.1, dN v.1 v.2.1, nI (COM v.1 v.2.1 v.2.2.2.2.2.1), ABM v.1 v.2.1 (COM v.1 v.2.1 v.2.2.2.2.2.1) 4), (g9, lr, v.2.2.1), (tn, ln), ((nx + 1) % 6, min (ct + 1) 6, va_up hh nx v), (v0, k0, v1, k1)), upd of 0 (nI (ABM v.1 v.2.1 (COM v.1 v.2.1 v.2.2.2.2.2.1) 4))), ⟨?_, fun _ => ⟨mo, hmo, ?_, ⟨BEST_M _ _, dN_D hd ht, hrc.1, hrc.2⟩, rfl, ?_⟩, fun z9 => absurd hc0 z9⟩, ?_⟩)
      · rw [show r = _ from hp, hc0]
      · show _ = sndV (nI 0).toInt.toNat v mo; rw [el, ev]
      · show upd of 0 (nI (ABM v.1 v.2.1 (COM v.1 v.2.1 v.2.2.2.2.2.1) 4)) 0 = nI (BITS v); rw [upd_0, eb]
      · exact h1
  · skip
    have hc0 : chT 3 (nI 1) y z = 0 := rfl
    have el : (nI 1).toInt.toNat = 1 := by decide
    by_cases hkey : sPi v % sKd v = 0
    · have eb : BITS v = 264 := by unfold BITS; rw [if_pos hkey]
      have ev : sndV 1 v mo = (v.1, v.1, v.2.2.1, fun _ => 0, mo, v.2.2.2.2.2.1, v.2.2.2.2.2.2.1, v.2.2.2.2.2.2.2.1 + 1, v.2.2.2.2.2.2.2.2.1 + 1, v.2.2.2.2.2.2.2.2.2 + 264) := if_pos hkey
      refine metG (c_L_chg_3_k1 a v mo ki pr df co bi g9 lr bf tn ln nx ct hh v0 k0 v1 k1 oa of y z hnx hct hpi hkd (Nat.le_of_lt hpi) hkey hfl hP0 hB0) pcX_heap (by decide) (by decide) (fun _ h => h) (fun r u H1 _ hp h1 => ⟨((v.1, v.1, v.2.2.1, fun _ => 0, mo, v.2.2.2.2.2.1, v.2.2.2.2.2.2.1, v.2.2.2.2.2.2.2.1 + 1, v.2.2.2.2.2.2.2.2.1 + 1, v.2.2.2.2.2.2.2.2.2 + 264), ((mo, fzK ki 4, pr, df, iI (-1), 264), (g9, lr, bf), (tn, ln), ((nx + 1) % 6, min (ct + 1) 6, va_up hh nx v), (v0, k0, v1, k1)), upd of 0 (nI 264)), ⟨?_, fun _ => ⟨mo, hmo, ?_, ⟨hmo, hdf, hrc.1, hrc.2⟩, rfl, ?_⟩, fun z9 => absurd hc0 z9⟩, ?_⟩)
      · rw [show r = _ from hp, hc0]
      · show _ = sndV (nI 1).toInt.toNat v mo; rw [el, ev]
      · show upd of 0 (nI 264) 0 = nI (BITS v); rw [upd_0, eb]
      · exact h1
    · have eb : BITS v = ABM v.1 v.2.1 (COM v.1 v.2.1 v.2.2.2.2.2.1) 4 := by unfold BITS; rw [if_neg hkey]
      have ev : sndV 1 v mo = (v.1, nT v.1 v.2.1 v.2.2.2.2.2.1, v.2.2.1, knN v.1 v.2.1 v.2.2.2.2.2.1, BEST v.1 v.2.1, v.2.2.2.2.2.1, v.2.2.2.2.2.2.1, v.2.2.2.2.2.2.2.1 + 1, v.2.2.2.2.2.2.2.2.1 + 1, v.2.2.2.2.2.2.2.2.2 + ABM v.1 v.2.1 (COM v.1 v.2.1 v.2.2.2.2.2.1) 4) := if_neg hkey
      refine metG (c_L_chg_3_n1 a v mo ki pr df co bi g9 lr bf tn ln nx ct hh v0 k0 v1 k1 oa of y z hnx hct hpi hd ht hg hdf hmo hkd (Nat.le_of_lt hpi) hkey hbu hfl hP0 hB0) pcX_heap (by decide) (by decide) (fun _ h => h) (fun r u H1 _ hp h1 => ⟨((v.1, nT v.1 v.2.1 v.2.2.2.2.2.1, v.2.2.1, knN v.1 v.2.1 v.2.2.2.2.2.1, BEST v.1 v.2.1, v.2.2.2.2.2.1, v.2.2.2.2.2.2.1, v.2.2.2.2.2.2.2.1 + 1, v.2.2.2.2.2.2.2.2.1 + 1, v.2.2.2.2.2.2.2.2.2 + ABM v.1 v.2.1 (COM v.1 v.2.1 v.2.2.2.2.2.1) 4), ((BEST v.1 v.2.1, knN v.1 v.2.1 v.2.2.2.2.2.1, pN v.1 v.2.1, dN v.1 v.2.1, nI (COM v.1 v.2.1 v.2.2.2.2.2.1), ABM v.1 v.2.1 (COM v.1 v.2.1 v.2.2.2.2.2.1) 4), (g9, lr, bf), (tn, ln), ((nx + 1) % 6, min (ct + 1) 6, va_up hh nx v), (v0, k0, v1, k1)), upd of 0 (nI (ABM v.1 v.2.1 (COM v.1 v.2.1 v.2.2.2.2.2.1) 4))), ⟨?_, fun _ => ⟨mo, hmo, ?_, ⟨BEST_M _ _, dN_D hd ht, hrc.1, hrc.2⟩, rfl, ?_⟩, fun z9 => absurd hc0 z9⟩, ?_⟩)
      · rw [show r = _ from hp, hc0]
      · show _ = sndV (nI 1).toInt.toNat v mo; rw [el, ev]
      · show upd of 0 (nI (ABM v.1 v.2.1 (COM v.1 v.2.1 v.2.2.2.2.2.1) 4)) 0 = nI (BITS v); rw [upd_0, eb]
      · exact h1
set_option maxHeartbeats 4000000 in
set_option maxRecDepth 100000 in
theorem o_chg_4 {l : Launch} {G : GT} {H0 : Heap} (a : Nat → Nat) (v : SVT) (j : JT) (oa : Nat) (of : Nat → Int32) (x y z : Int32) (hv : OKS v) (hpi : sPi v < 999) (hj : OKJ j) (hfl : l.stackTraces = false) (hP0 : PP G (oW G a v j ++ ouW G oa of) H0) (hB0 : va_D (lo G) (oW G a v j ++ ouW G oa of)) : Met l yL_changes wsL_changes ({ frames := 8, cells := 1, slots := 6, locals := 142 } : Room) (pcX G [.ref (a 0), .int (nI 4), .int x, .int y, .int z, .ref oa] H0) (qMi G (CHP 4 x y z v j of) (fun (u : CT3) => oW G a u.1 u.2.1 ++ ouW G oa u.2.2) (oW G a v j ++ ouW G oa of) H0) 1 6 (va_A (oW G a v j ++ ouW G oa of) H0.size) := by
  obtain ⟨⟨mo, ki, pr, df, co, bi⟩, ⟨g9, lr, bf⟩, ⟨tn, ln⟩, ⟨nx, ct, hh⟩, ⟨v0, k0, v1, k1⟩⟩ := j
  have hj0 := hj
  obtain ⟨hd, ht, hg, hk, hbu, hkd⟩ := hv
  obtain ⟨hmo, hdf, hnx, hct⟩ := hj
  have hrc := rc_ok (h := (nx, ct, hh)) (v := v) hnx
  by_cases c1 : 4 ≤ x.toInt ∧ x.toInt ≤ 300
  · obtain ⟨q, rfl, eq⟩ := i_of (x := x) (by omega)
    have hc0 : chT 4 (nI q) y z = 0 := by rw [chT4, if_pos c1]
    have q1 : (nI q).toInt.toNat = q := by rw [← eq]; rfl
    refine metG (c_L_chg_4 a v mo ki pr df co bi g9 lr bf tn ln nx ct hh v0 k0 v1 k1 oa of q y z hnx hct (by omega) hfl hP0 hB0) pcX_heap (by decide) (by decide) (fun _ h => h) (fun r u H1 _ hp h1 => ⟨((sD v, sT v, sG v, sK v, sM v, q, v.2.2.2.2.2.2), ((mo, ki, pr, df, co, bi), (g9, lr, bf), (tn, ln), ((nx + 1) % 6, min (ct + 1) 6, va_up hh nx v), (v0, k0, v1, k1)), upd of 0 (nI v.2.2.2.2.2.1)), ⟨?_, fun _ => ⟨mo, hmo, ?_, ⟨hmo, hdf, hrc.1, hrc.2⟩, rfl, ?_⟩, fun z9 => absurd hc0 z9⟩, ?_⟩)
    · rw [show r = _ from hp, hc0]
    · show _ = (sD v, sT v, sG v, sK v, sM v, (nI q).toInt.toNat, v.2.2.2.2.2.2); rw [q1]
    · show upd of 0 (nI v.2.2.2.2.2.1) 0 = nI v.2.2.2.2.2.1; exact upd_0 _ _
    · exact h1
  · have hc0 : chT 4 x y z = 2 := by rw [chT4, if_neg c1]
    refine metG (c_L_chg_4_x1 a v mo ki pr df co bi g9 lr bf tn ln nx ct hh v0 k0 v1 k1 oa of x y z (by omega) hfl hP0 hB0) pcX_heap (by decide) (by decide) (fun _ h => h) (fun r u H1 _ hp h1 => ⟨(v, ((mo, ki, pr, df, co, bi), (g9, lr, bf), (tn, ln), (nx, ct, hh), (v0, k0, v1, k1)), of), ⟨?_, fun z9 => absurd (z9.symm.trans hc0) (by decide), fun _ => rfl⟩, h1⟩)
    rw [show r = _ from hp, hc0]
set_option maxHeartbeats 4000000 in
set_option maxRecDepth 100000 in
theorem o_chg_5 {l : Launch} {G : GT} {H0 : Heap} (a : Nat → Nat) (v : SVT) (j : JT) (oa : Nat) (of : Nat → Int32) (x y z : Int32) (hv : OKS v) (hpi : sPi v < 999) (hj : OKJ j) (hfl : l.stackTraces = false) (hP0 : PP G (oW G a v j ++ ouW G oa of) H0) (hB0 : va_D (lo G) (oW G a v j ++ ouW G oa of)) : Met l yL_changes wsL_changes ({ frames := 8, cells := 1, slots := 6, locals := 142 } : Room) (pcX G [.ref (a 0), .int (nI 5), .int x, .int y, .int z, .ref oa] H0) (qMi G (CHP 5 x y z v j of) (fun (u : CT3) => oW G a u.1 u.2.1 ++ ouW G oa u.2.2) (oW G a v j ++ ouW G oa of) H0) 1 6 (va_A (oW G a v j ++ ouW G oa of) H0.size) := by
  obtain ⟨⟨mo, ki, pr, df, co, bi⟩, ⟨g9, lr, bf⟩, ⟨tn, ln⟩, ⟨nx, ct, hh⟩, ⟨v0, k0, v1, k1⟩⟩ := j
  have hj0 := hj
  obtain ⟨hd, ht, hg, hk, hbu, hkd⟩ := hv
  obtain ⟨hmo, hdf, hnx, hct⟩ := hj
  have hrc := rc_ok (h := (nx, ct, hh)) (v := v) hnx
  by_cases c1 : 1 ≤ x.toInt ∧ x.toInt ≤ 20
  · obtain ⟨q, rfl, eq⟩ := i_of (x := x) (by omega)
    have hc0 : chT 5 (nI q) y z = 0 := by rw [chT5, if_pos c1]
    have q1 : (nI q).toInt.toNat = q := by rw [← eq]; rfl
    refine metG (c_L_chg_5 a v mo ki pr df co bi g9 lr bf tn ln nx ct hh v0 k0 v1 k1 oa of q y z hnx hct (by omega) hfl hP0 hB0) pcX_heap (by decide) (by decide) (fun _ h => h) (fun r u H1 _ hp h1 => ⟨((sD v, sT v, sG v, sK v, sM v, sBu v, q, v.2.2.2.2.2.2.2), ((mo, ki, pr, df, co, bi), (g9, lr, bf), (tn, ln), ((nx + 1) % 6, min (ct + 1) 6, va_up hh nx v), (v0, k0, v1, k1)), upd of 0 (nI v.2.2.2.2.2.2.1)), ⟨?_, fun _ => ⟨mo, hmo, ?_, ⟨hmo, hdf, hrc.1, hrc.2⟩, rfl, ?_⟩, fun z9 => absurd hc0 z9⟩, ?_⟩)
    · rw [show r = _ from hp, hc0]
    · show _ = (sD v, sT v, sG v, sK v, sM v, sBu v, (nI q).toInt.toNat, v.2.2.2.2.2.2.2); rw [q1]
    · show upd of 0 (nI v.2.2.2.2.2.2.1) 0 = nI v.2.2.2.2.2.2.1; exact upd_0 _ _
    · exact h1
  · have hc0 : chT 5 x y z = 2 := by rw [chT5, if_neg c1]
    refine metG (c_L_chg_5_x1 a v mo ki pr df co bi g9 lr bf tn ln nx ct hh v0 k0 v1 k1 oa of x y z (by omega) hfl hP0 hB0) pcX_heap (by decide) (by decide) (fun _ h => h) (fun r u H1 _ hp h1 => ⟨(v, ((mo, ki, pr, df, co, bi), (g9, lr, bf), (tn, ln), (nx, ct, hh), (v0, k0, v1, k1)), of), ⟨?_, fun z9 => absurd (z9.symm.trans hc0) (by decide), fun _ => rfl⟩, h1⟩)
    rw [show r = _ from hp, hc0]
