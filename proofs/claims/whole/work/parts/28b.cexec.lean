theorem vo_kd {ss : Nat → Int} (h : MR ss) : 1 ≤ (ss 193).toNat ∧ (ss 193).toNat ≤ 20 := by have := h.2.2.1; omega
theorem vo_pi {ss : Nat → Int} (h : MR ss) : (ss 194).toNat ≤ 999 := by have := h.2.2.2.1; omega
theorem vo_bu {ss : Nat → Int} (h : MR ss) : (ss 192).toNat ≤ 300 := by have := h.2.1; omega
theorem vo_my {ss : Nat → Int} (h : MR ss) (q : ss 194 < 999) : (ss 194).toNat < 999 := by have := h.2.2.2.1; omega
theorem vo_mn {ss : Nat → Int} (h : MR ss) (q : ¬ ss 194 < 999) : ¬ (ss 194).toNat < 999 := by have := h.2.2.2.1; omega
/-- the numbers of a command, as the class reads them -/
theorem an_cmd {tn : Nat → Nat} {ln i : Nat} (hd1 : i + 1 < ln ∧ isDg (tn (i + 1))) (hm : mkP tn ln i < ln ∧ tn (mkP tn ln i) = 61) (hd2 : s2P tn ln i < ln ∧ isDg (tn (s2P tn ln i))) (hno : ¬ (s2P tn ln i + nlN tn ln (s2P tn ln i) < ln ∧ isDg (tn (s2P tn ln i + nlN tn ln (s2P tn ln i))))) :
    AN tn ln (i + 1) < ln ∧ nbZ tn ln (i + 1) (AN tn ln (i + 1) - (i + 1)) = ((nvN tn ln (i + 1) : Nat) : Int) ∧ nbZ tn ln (AN tn ln (i + 1) + 1) (AN tn ln (AN tn ln (i + 1) + 1) - (AN tn ln (i + 1) + 1)) = ((nvN tn ln (s2P tn ln i) : Nat) : Int) := by
  obtain ⟨a1, a2⟩ := an_num (tn := tn) (ln := ln) (s := i + 1) hd1.1 hd1.2 (fun z => by
    have z2 : 48 ≤ tn (mkP tn ln i) ∧ tn (mkP tn ln i) ≤ 57 := z.2
    have := hm.2; omega)
  obtain ⟨b1, b2⟩ := an_num (tn := tn) (ln := ln) (s := s2P tn ln i) hd2.1 hd2.2 hno
  have a3 : AN tn ln (i + 1) = mkP tn ln i := a1
  refine ⟨by rw [a3]; exact hm.1, a2, ?_⟩
  rw [a3]
  exact b2

set_option maxHeartbeats 4000000 in
set_option maxRecDepth 100000 in
theorem c_exec {l : Launch} {G : GT} {H0 : Heap} (a : Nat → Nat) (v : SVT) (mo ki : Nat → Nat) (pr df : Nat → Int) (co : Int32) (bi : Nat) (g9 : Nat → Int32) (lr : Nat) (bf : Nat → Int) (tn : Nat → Nat) (ln : Nat) (ss : Nat → Int) (k o : Nat → Nat) (i : Nat) (htn : T128 tn) (hln : ln ≤ 80) (hw : WC tn ln i) (hno : ¬ (ceP tn ln i < ln ∧ isDg (tn (ceP tn ln i)))) (hv : v = vOf ss k o) (hM : MR ss) (hKO : KO ss k o) (hdf : D15 df) (hmo : M25 mo) (hP0 : PP G (y3W G a v mo ki pr df co bi g9 lr bf tn ln) H0) (hB0 : va_D (lo G) (y3W G a v mo ki pr df co bi g9 lr bf tn ln)) : Met l yX8_execute wsX8_execute ({ frames := 5, cells := 0, slots := 0, locals := 121 } : Room) (pcG G [.ref (a 0), .int (nI (i))] H0) (qMi G (fun (r : Int32) (u : SVT × (Nat → Nat) × (Nat → Nat) × (Nat → Nat) × (Nat → Nat) × (Nat → Int) × (Nat → Int) × Int32 × Nat × (Nat → Int)) => u.1 = vOf (exS tn ln i ss) u.2.1 u.2.2.1 ∧ KO (exS tn ln i ss) u.2.1 u.2.2.1 ∧ M25 u.2.2.2.1 ∧ D15 u.2.2.2.2.2.2.1 ∧ r = nI (exR tn ln i ss)) (fun (u : SVT × (Nat → Nat) × (Nat → Nat) × (Nat → Nat) × (Nat → Nat) × (Nat → Int) × (Nat → Int) × Int32 × Nat × (Nat → Int)) => y3W G a u.1 u.2.2.2.1 u.2.2.2.2.1 u.2.2.2.2.2.1 u.2.2.2.2.2.2.1 u.2.2.2.2.2.2.2.1 u.2.2.2.2.2.2.2.2.1 g9 lr u.2.2.2.2.2.2.2.2.2 tn ln) (y3W G a v mo ki pr df co bi g9 lr bf tn ln) H0) 0 0 (va_A (y3W G a v mo ki pr df co bi g9 lr bf tn ln) H0.size) := by
  subst hv
  obtain ⟨hi8, hw⟩ := hw
  have hi9 : i ≤ 2147483647 := by omega
  have hd := MR_d hM
  have ht := MR_t hM
  have hg := MR_g hM
  rcases hw with hs | ⟨hp, hd1, hm, hd2⟩
  · have hs9 : tn i = 117 ∨ tn i = 100 ∨ tn i = 108 ∨ tn i = 114 ∨ tn i = 115 ∨ tn i = 120 := hs
    rcases hs9 with hc | hc | hc | hc | hc | hc
    · have e : exF tn ln i ss = some (scR ss 1 0) := by unfold exF; rw [if_neg (by omega), if_pos hc]
      obtain ⟨e1, e2⟩ := ex_some e
      rw [e1, e2]
      exact metMapI (c_X8_execute_u a (vOf ss k o) mo ki pr df co bi g9 lr bf tn ln i htn hln hi9 hd ((sgn_in hi8).symm.trans hc) hP0 hB0) (fun _ h => h) (fun r u H1 _ hr h1 => ⟨(vOf (scR ss 1 0) k o, k, o, mo, ki, pr, df, co, bi, dS ss), ⟨rfl, KO_ag hKO (fun j h2 _ => tkm_hi 1 0 (by omega) 64 (Nat.le_refl 64)), hmo, hdf, hr⟩, y3_eqv eq_sc h1⟩)
    · have e : exF tn ln i ss = some (scR ss (-1) 0) := by unfold exF; rw [if_neg (by omega), if_neg (by omega), if_pos hc]
      obtain ⟨e1, e2⟩ := ex_some e
      rw [e1, e2]
      exact metMapI (c_X8_execute_d a (vOf ss k o) mo ki pr df co bi g9 lr bf tn ln i htn hln hi9 hd ((sgn_in hi8).symm.trans hc) hP0 hB0) (fun _ h => h) (fun r u H1 _ hr h1 => ⟨(vOf (scR ss (-1) 0) k o, k, o, mo, ki, pr, df, co, bi, dS ss), ⟨rfl, KO_ag hKO (fun j h2 _ => tkm_hi (-1) 0 (by omega) 64 (Nat.le_refl 64)), hmo, hdf, hr⟩, y3_eqv eq_sc h1⟩)
    · have e : exF tn ln i ss = some (scR ss 0 1) := by unfold exF; rw [if_neg (by omega), if_neg (by omega), if_neg (by omega), if_pos hc]
      obtain ⟨e1, e2⟩ := ex_some e
      rw [e1, e2]
      exact metMapI (c_X8_execute_l a (vOf ss k o) mo ki pr df co bi g9 lr bf tn ln i htn hln hi9 hd ((sgn_in hi8).symm.trans hc) hP0 hB0) (fun _ h => h) (fun r u H1 _ hr h1 => ⟨(vOf (scR ss 0 1) k o, k, o, mo, ki, pr, df, co, bi, dS ss), ⟨rfl, KO_ag hKO (fun j h2 _ => tkm_hi 0 1 (by omega) 64 (Nat.le_refl 64)), hmo, hdf, hr⟩, y3_eqv eq_sc h1⟩)
    · have e : exF tn ln i ss = some (scR ss 0 (-1)) := by unfold exF; rw [if_neg (by omega), if_neg (by omega), if_neg (by omega), if_neg (by omega), if_pos hc]
      obtain ⟨e1, e2⟩ := ex_some e
      rw [e1, e2]
      exact metMapI (c_X8_execute_r a (vOf ss k o) mo ki pr df co bi g9 lr bf tn ln i htn hln hi9 hd ((sgn_in hi8).symm.trans hc) hP0 hB0) (fun _ h => h) (fun r u H1 _ hr h1 => ⟨(vOf (scR ss 0 (-1)) k o, k, o, mo, ki, pr, df, co, bi, dS ss), ⟨rfl, KO_ag hKO (fun j h2 _ => tkm_hi 0 (-1) (by omega) 64 (Nat.le_refl 64)), hmo, hdf, hr⟩, y3_eqv eq_sc h1⟩)
    · by_cases hms : ss 194 < 999
      · have e : exF tn ln i ss = some (sdX ss 0) := by unfold exF; rw [if_neg (by omega), if_neg (by omega), if_neg (by omega), if_neg (by omega), if_neg (by omega), if_pos hms, if_neg (by omega)]
        obtain ⟨e1, e2⟩ := ex_some e
        rw [e1, e2]
        by_cases hkey : (ss 194).toNat % (ss 193).toNat = 0
        · rw [show sdX ss 0 = sdR ss (dS ss) (dS ss) (fun _ => 0) (BEST (dS ss) (tS ss)) (264) 0 from if_pos hkey]
          exact metMapI (c_X8_execute_sk0 a (vOf ss k o) mo ki pr df co bi g9 lr bf tn ln i htn hln hi9 (vo_my hM hms) (vo_kd hM) (vo_pi hM) hkey ((sgn_in hi8).symm.trans hc) hP0 hB0) (fun _ h => h) (fun r u H1 _ hr h1 => ⟨(vOf (sdR ss (dS ss) (dS ss) (fun _ => 0) (BEST (dS ss) (tS ss)) (264) 0) (fun _ => 0) mo, fun _ => 0, mo, mo, fzK ki 4, pr, df, iI (-1), 264, rS ss), ⟨rfl, KO_sd hM (fun _ => Nat.zero_le 2) (fun _ _ z => absurd rfl z), hmo, hdf, hr⟩, y3_eqv (eq_sd hM (fun j _ => by first | rfl | (rw [if_pos rfl]) | (rw [if_neg (by omega)])) (fun _ _ => rfl) rfl) h1⟩)
        · rw [show sdX ss 0 = sdR ss (nT (dS ss) (tS ss) (ss 192).toNat) (nG (dS ss) (tS ss) (rS ss) (ss 192).toNat) (knN (dS ss) (tS ss) (ss 192).toNat) (BEST (dS ss) (tS ss)) (ABM (dS ss) (tS ss) (COM (dS ss) (tS ss) (ss 192).toNat) 4) 0 from if_neg hkey]
          exact metMapI (c_X8_execute_sn0 a (vOf ss k o) mo ki pr df co bi g9 lr bf tn ln i htn hln hi9 (vo_my hM hms) hd ht hg hdf hmo (vo_kd hM) (vo_pi hM) hkey (vo_bu hM) ((sgn_in hi8).symm.trans hc) hP0 hB0) (fun _ h => h) (fun r u H1 _ hr h1 => ⟨(vOf (sdR ss (nT (dS ss) (tS ss) (ss 192).toNat) (nG (dS ss) (tS ss) (rS ss) (ss 192).toNat) (knN (dS ss) (tS ss) (ss 192).toNat) (BEST (dS ss) (tS ss)) (ABM (dS ss) (tS ss) (COM (dS ss) (tS ss) (ss 192).toNat) 4) 0) (knN (dS ss) (tS ss) (ss 192).toNat) (BEST (dS ss) (tS ss)), knN (dS ss) (tS ss) (ss 192).toNat, BEST (dS ss) (tS ss), BEST (dS ss) (tS ss), knN (dS ss) (tS ss) (ss 192).toNat, pN (dS ss) (tS ss), dN (dS ss) (tS ss), nI (COM (dS ss) (tS ss) (ss 192).toNat), ABM (dS ss) (tS ss) (COM (dS ss) (tS ss) (ss 192).toNat) 4, rS ss), ⟨rfl, KO_sd hM (fun _ => KDM_le _ _ _ _) (fun _ _ _ => rfl), BEST_M _ _, dN_D hd ht, hr⟩, y3_eqv (eq_sd hM (fun j _ => by first | rfl | (rw [if_pos rfl]) | (rw [if_neg (by omega)])) (fun _ _ => rfl) rfl) h1⟩)
      · have e : exF tn ln i ss = none := by unfold exF; rw [if_neg (by omega), if_neg (by omega), if_neg (by omega), if_neg (by omega), if_neg (by omega), if_neg hms]
        obtain ⟨e1, e2⟩ := ex_none e
        rw [e1, e2]
        exact metMapI (c_X8_execute_f0 a (vOf ss k o) mo ki pr df co bi g9 lr bf tn ln i htn hln hi9 (vo_kd hM) (vo_pi hM) (vo_mn hM hms) ((sgn_in hi8).symm.trans hc) hP0 hB0) (fun _ h => h) (fun r u H1 _ hr h1 => ⟨(vOf ss k o, k, o, mo, ki, pr, df, co, bi, bf), ⟨rfl, hKO, hmo, hdf, hr⟩, h1⟩)
    · by_cases hms : ss 194 < 999
      · have e : exF tn ln i ss = some (sdX ss 1) := by unfold exF; rw [if_neg (by omega), if_neg (by omega), if_neg (by omega), if_neg (by omega), if_neg (by omega), if_pos hms, if_pos hc]
        obtain ⟨e1, e2⟩ := ex_some e
        rw [e1, e2]
        by_cases hkey : (ss 194).toNat % (ss 193).toNat = 0
        · rw [show sdX ss 1 = sdR ss (dS ss) (dS ss) (fun _ => 0) (BEST (dS ss) (tS ss)) (264) 1 from if_pos hkey]
          exact metMapI (c_X8_execute_sk1 a (vOf ss k o) mo ki pr df co bi g9 lr bf tn ln i htn hln hi9 (vo_my hM hms) (vo_kd hM) (vo_pi hM) hkey ((sgn_in hi8).symm.trans hc) hP0 hB0) (fun _ h => h) (fun r u H1 _ hr h1 => ⟨(vOf (sdR ss (dS ss) (dS ss) (fun _ => 0) (BEST (dS ss) (tS ss)) (264) 1) (fun _ => 0) mo, fun _ => 0, mo, mo, fzK ki 4, pr, df, iI (-1), 264, bf), ⟨rfl, KO_sd hM (fun _ => Nat.zero_le 2) (fun _ _ z => absurd rfl z), hmo, hdf, hr⟩, y3_eqv (eq_sd hM (fun j _ => by first | rfl | (rw [if_pos rfl]) | (rw [if_neg (by omega)])) (fun _ _ => rfl) rfl) h1⟩)
        · rw [show sdX ss 1 = sdR ss (nT (dS ss) (tS ss) (ss 192).toNat) (nG (dS ss) (tS ss) (rS ss) (ss 192).toNat) (knN (dS ss) (tS ss) (ss 192).toNat) (BEST (dS ss) (tS ss)) (ABM (dS ss) (tS ss) (COM (dS ss) (tS ss) (ss 192).toNat) 4) 1 from if_neg hkey]
          exact metMapI (c_X8_execute_sn1 a (vOf ss k o) mo ki pr df co bi g9 lr bf tn ln i htn hln hi9 (vo_my hM hms) hd ht hg hdf hmo (vo_kd hM) (vo_pi hM) hkey (vo_bu hM) ((sgn_in hi8).symm.trans hc) hP0 hB0) (fun _ h => h) (fun r u H1 _ hr h1 => ⟨(vOf (sdR ss (nT (dS ss) (tS ss) (ss 192).toNat) (nG (dS ss) (tS ss) (rS ss) (ss 192).toNat) (knN (dS ss) (tS ss) (ss 192).toNat) (BEST (dS ss) (tS ss)) (ABM (dS ss) (tS ss) (COM (dS ss) (tS ss) (ss 192).toNat) 4) 1) (knN (dS ss) (tS ss) (ss 192).toNat) (BEST (dS ss) (tS ss)), knN (dS ss) (tS ss) (ss 192).toNat, BEST (dS ss) (tS ss), BEST (dS ss) (tS ss), knN (dS ss) (tS ss) (ss 192).toNat, pN (dS ss) (tS ss), dN (dS ss) (tS ss), nI (COM (dS ss) (tS ss) (ss 192).toNat), ABM (dS ss) (tS ss) (COM (dS ss) (tS ss) (ss 192).toNat) 4, bf), ⟨rfl, KO_sd hM (fun _ => KDM_le _ _ _ _) (fun _ _ _ => rfl), BEST_M _ _, dN_D hd ht, hr⟩, y3_eqv (eq_sd hM (fun j _ => by first | rfl | (rw [if_pos rfl]) | (rw [if_neg (by omega)])) (fun _ _ => rfl) rfl) h1⟩)
      · have e : exF tn ln i ss = none := by unfold exF; rw [if_neg (by omega), if_neg (by omega), if_neg (by omega), if_neg (by omega), if_neg (by omega), if_neg hms]
        obtain ⟨e1, e2⟩ := ex_none e
        rw [e1, e2]
        exact metMapI (c_X8_execute_f1 a (vOf ss k o) mo ki pr df co bi g9 lr bf tn ln i htn hln hi9 (vo_kd hM) (vo_pi hM) (vo_mn hM hms) ((sgn_in hi8).symm.trans hc) hP0 hB0) (fun _ h => h) (fun r u H1 _ hr h1 => ⟨(vOf ss k o, k, o, mo, ki, pr, df, co, bi, bf), ⟨rfl, hKO, hmo, hdf, hr⟩, h1⟩)
  · have ec : ceP tn ln i = s2P tn ln i + nlN tn ln (s2P tn ln i) := by unfold ceP; rw [if_pos hp]
    rw [ec] at hno
    obtain ⟨q1, q2, q3⟩ := an_cmd hd1 hm hd2 hno
    have q4 := nv_le (ln := ln) hd1.2
    have q5 := nv_le (ln := ln) hd2.2
    by_cases hok : nvN tn ln (i + 1) < 64 ∧ nvN tn ln (s2P tn ln i) ≤ 15
    · have e : exF tn ln i ss = some (va_up ss (nvN tn ln (i + 1)) ((nvN tn ln (s2P tn ln i) : Nat) : Int)) := by unfold exF; rw [if_pos hp, if_pos hok]
      obtain ⟨e1, e2⟩ := ex_some e
      rw [e1, e2]
      exact metMapI (c_X8_execute_p1 a (vOf ss k o) mo ki pr df co bi g9 lr bf tn ln i (nvN tn ln (i + 1)) (nvN tn ln (s2P tn ln i)) htn hln hi9 hi8 q1 q2 q3 q4 q5 hok ((sgn_in hi8).symm.trans hp) hP0 hB0) (fun _ h => h) (fun r u H1 _ hr h1 => ⟨(vOf (va_up ss (nvN tn ln (i + 1)) ((nvN tn ln (s2P tn ln i) : Nat) : Int)) k o, k, o, mo, ki, pr, df, co, bi, bf), ⟨rfl, KO_ag hKO (fun j h2 _ => up_hi hok.1 (by omega)), hmo, hdf, hr⟩, y3_eqv (eq_up hok.1) h1⟩)
    · have e : exF tn ln i ss = none := by unfold exF; rw [if_pos hp, if_neg hok]
      obtain ⟨e1, e2⟩ := ex_none e
      rw [e1, e2]
      exact metMapI (c_X8_execute_p0 a (vOf ss k o) mo ki pr df co bi g9 lr bf tn ln i (nvN tn ln (i + 1)) (nvN tn ln (s2P tn ln i)) htn hln hi9 hi8 q1 q2 q3 q4 q5 hok ((sgn_in hi8).symm.trans hp) hP0 hB0) (fun _ h => h) (fun r u H1 _ hr h1 => ⟨(vOf ss k o, k, o, mo, ki, pr, df, co, bi, bf), ⟨rfl, hKO, hmo, hdf, hr⟩, h1⟩)
