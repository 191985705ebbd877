/-! ===== the text, command by command ===== -/
def nlN (tn : Nat → Nat) (ln s : Nat) : Nat := if tn s = 48 then 1 else if s + 1 < ln ∧ isDg (tn (s + 1)) then 2 else 1
def nvN (tn : Nat → Nat) (ln s : Nat) : Nat := if nlN tn ln s = 2 then 10 * (tn s - 48) + (tn (s + 1) - 48) else tn s - 48
def mkP (tn : Nat → Nat) (ln i : Nat) : Nat := i + 1 + nlN tn ln (i + 1)
def s2P (tn : Nat → Nat) (ln i : Nat) : Nat := mkP tn ln i + 1
def ceP (tn : Nat → Nat) (ln i : Nat) : Nat := if tn i = 112 then s2P tn ln i + nlN tn ln (s2P tn ln i) else i + 1
def WC (tn : Nat → Nat) (ln i : Nat) : Prop := i < ln ∧ (isSh (tn i) ∨ (tn i = 112 ∧ (i + 1 < ln ∧ isDg (tn (i + 1))) ∧ (mkP tn ln i < ln ∧ tn (mkP tn ln i) = 61) ∧ (s2P tn ln i < ln ∧ isDg (tn (s2P tn ln i)))))
def erP (tn : Nat → Nat) (ln i : Nat) : Nat :=
  if ¬ (i < ln ∧ (isSh (tn i) ∨ tn i = 112)) then i else if ¬ (i + 1 < ln ∧ isDg (tn (i + 1))) then i + 1 else if ¬ (mkP tn ln i < ln ∧ tn (mkP tn ln i) = 61) then mkP tn ln i else s2P tn ln i
theorem nl_1 {tn : Nat → Nat} {ln s : Nat} (h : tn s = 48 ∨ ¬ (s + 1 < ln ∧ isDg (tn (s + 1)))) : nlN tn ln s = 1 ∧ nvN tn ln s = tn s - 48 := by
  have e : nlN tn ln s = 1 := by
    unfold nlN
    split
    · rfl
    · rw [if_neg (by omega)]
  exact ⟨e, by unfold nvN; rw [if_neg (by omega)]⟩
theorem nl_2 {tn : Nat → Nat} {ln s : Nat} (h0 : ¬ tn s = 48) (h : s + 1 < ln ∧ isDg (tn (s + 1))) : nlN tn ln s = 2 ∧ nvN tn ln s = 10 * (tn s - 48) + (tn (s + 1) - 48) := by
  have e : nlN tn ln s = 2 := by unfold nlN; rw [if_neg h0, if_pos h]
  exact ⟨e, by unfold nvN; rw [if_pos e]⟩
theorem nl_in (tn : Nat → Nat) (ln s : Nat) : 1 ≤ nlN tn ln s ∧ nlN tn ln s ≤ 2 := by unfold nlN; split <;> first | omega | (split <;> omega)
theorem nl_le {tn : Nat → Nat} {ln s : Nat} (h : s < ln) : s + nlN tn ln s ≤ ln := by
  unfold nlN
  split
  · omega
  · split
    · rename_i c; have := c.1; omega
    · omega
theorem nv_le {tn : Nat → Nat} {ln s : Nat} (h : isDg (tn s)) : nvN tn ln s ≤ 99 := by
  have h9 : 48 ≤ tn s ∧ tn s ≤ 57 := h
  by_cases c : tn s = 48 ∨ ¬ (s + 1 < ln ∧ isDg (tn (s + 1)))
  · rw [(nl_1 c).2]; omega
  · have c2 : s + 1 < ln ∧ isDg (tn (s + 1)) := Classical.byContradiction fun z => c (Or.inr z)
    rw [(nl_2 (fun z => c (Or.inl z)) c2).2]
    have h8 : 48 ≤ tn (s + 1) ∧ tn (s + 1) ≤ 57 := c2.2
    omega
/-- the first error is not before i -/
def HF (tn : Nat → Nat) (ln i : Nat) : Prop := i ≤ ln ∧ FE tn ln = feF tn ln (ln - i) i
theorem HF_0 (tn : Nat → Nat) (ln : Nat) : HF tn ln 0 := ⟨Nat.zero_le _, rfl⟩
theorem HF_s {tn : Nat → Nat} {ln i : Nat} (h : HF tn ln i) (hi : i < ln) (h7 : ¬ dst tn (i + 1) = 7) : HF tn ln (i + 1) := ⟨hi, h.2.trans (feF_s hi h7)⟩
theorem HF_x {tn : Nat → Nat} {ln i : Nat} (h : HF tn ln i) (hi : i < ln) (h7 : dst tn (i + 1) = 7) : FE tn ln = (i : Int) := h.2.trans (feF_x hi h7)
theorem HF_e {tn : Nat → Nat} {ln i : Nat} (h : HF tn ln i) (hi : ¬ i < ln) (h7 : ¬ (dst tn i = 5 ∨ dst tn i = 6)) : FE tn ln = (i : Int) := by
  rw [h.2, feF_e (by omega), if_neg h7]
  have := h.1; omega
theorem HF_ok {tn : Nat → Nat} {ln i : Nat} (h : HF tn ln i) (hi : ¬ i < ln) (h7 : dst tn i = 5 ∨ dst tn i = 6) : FE tn ln = -1 := by rw [h.2, feF_e (by omega), if_pos h7]
theorem dst_s (tn : Nat → Nat) (i : Nat) : dst tn (i + 1) = dueA (dst tn i) (tn i) := rfl
/-- a number: due is 1 or 4 -/
theorem num_ok {tn : Nat → Nat} {ln s du : Nat} (hdu : du = 1 ∨ du = 4) (hd : dst tn s = du) (h : HF tn ln s) (hs : s < ln) (hg : isDg (tn s)) :
    HF tn ln (s + nlN tn ln s) ∧ (dst tn (s + nlN tn ln s) = du + 1 ∨ dst tn (s + nlN tn ln s) = du + 2) ∧ (dst tn (s + nlN tn ln s) = du + 1 → ¬ (s + nlN tn ln s < ln ∧ isDg (tn (s + nlN tn ln s)))) := by
  have hg9 : 48 ≤ tn s ∧ tn s ≤ 57 := hg
  by_cases c0 : tn s = 48
  · have e := (nl_1 (tn := tn) (ln := ln) (s := s) (Or.inl c0)).1
    have d1 : dst tn (s + 1) = du + 2 := by
      rw [dst_s, hd, c0]; rcases hdu with rfl | rfl <;> rfl
    rw [e]
    exact ⟨HF_s h hs (by rcases hdu with rfl | rfl <;> omega), Or.inr d1, fun z => by omega⟩
  · have d1 : dst tn (s + 1) = du + 1 := by
      rw [dst_s, hd]; rcases hdu with rfl | rfl <;> (unfold dueA isDg; (repeat' split) <;> omega)
    have h1 := HF_s h hs (by rcases hdu with rfl | rfl <;> omega)
    by_cases c : s + 1 < ln ∧ isDg (tn (s + 1))
    · have e := (nl_2 c0 c).1
      have hc9 : 48 ≤ tn (s + 1) ∧ tn (s + 1) ≤ 57 := c.2
      have d2 : dst tn (s + 2) = du + 2 := by
        show dueA (dst tn (s + 1)) (tn (s + 1)) = _
        rw [d1]; rcases hdu with rfl | rfl <;> (unfold dueA isDg; (repeat' split) <;> omega)
      rw [e]
      exact ⟨HF_s h1 c.1 (by show ¬ dst tn (s + 2) = 7; rcases hdu with rfl | rfl <;> omega), Or.inr d2, fun z => by omega⟩
    · have e := (nl_1 (Or.inr c)).1
      rw [e]
      exact ⟨h1, Or.inl d1, fun _ => c⟩
theorem num_no {tn : Nat → Nat} {ln s du : Nat} (hdu : du = 1 ∨ du = 4) (hd : dst tn s = du) (h : HF tn ln s) (hg : ¬ (s < ln ∧ isDg (tn s))) : FE tn ln = (s : Int) := by
  by_cases c : s < ln
  · refine HF_x h c ?_
    have c2 : ¬ (48 ≤ tn s ∧ tn s ≤ 57) := fun z => hg ⟨c, z⟩
    rw [dst_s, hd]; rcases hdu with rfl | rfl <;> (unfold dueA isDg; (repeat' split) <;> omega)
  · exact HF_e h c (by omega)
theorem cmd_ok {tn : Nat → Nat} {ln i : Nat} (hd : dst tn i = 0) (h : HF tn ln i) (hw : WC tn ln i) :
    HF tn ln (ceP tn ln i) ∧ i < ceP tn ln i ∧ (dst tn (ceP tn ln i) = 5 ∨ dst tn (ceP tn ln i) = 6) ∧ (dst tn (ceP tn ln i) = 5 → ¬ (ceP tn ln i < ln ∧ isDg (tn (ceP tn ln i)))) := by
  obtain ⟨hi, hw⟩ := hw
  rcases hw with hs | ⟨hp, hd1, hm, hd2⟩
  · have hs9 : tn i = 117 ∨ tn i = 100 ∨ tn i = 108 ∨ tn i = 114 ∨ tn i = 115 ∨ tn i = 120 := hs
    have e : ceP tn ln i = i + 1 := by unfold ceP; rw [if_neg (by omega)]
    have d : dst tn (i + 1) = 6 := by rw [dst_s, hd]; unfold dueA isSh; (repeat' split) <;> omega
    rw [e]
    exact ⟨HF_s h hi (by omega), by omega, Or.inr d, fun z => by omega⟩
  · have e : ceP tn ln i = s2P tn ln i + nlN tn ln (s2P tn ln i) := by unfold ceP; rw [if_pos hp]
    have d : dst tn (i + 1) = 1 := by rw [dst_s, hd]; unfold dueA; rw [if_pos rfl, if_pos hp]
    have h1 := HF_s h hi (by omega)
    obtain ⟨h2, h3, h4⟩ := num_ok (Or.inl rfl) d h1 hd1.1 hd1.2
    have h2' : HF tn ln (mkP tn ln i) := h2
    have h3' : dst tn (mkP tn ln i) = 2 ∨ dst tn (mkP tn ln i) = 3 := h3
    have d2 : dst tn (s2P tn ln i) = 4 := by
      show dueA (dst tn (mkP tn ln i)) (tn (mkP tn ln i)) = 4
      rw [hm.2]; rcases h3' with q | q <;> rw [q] <;> rfl
    have h5 : HF tn ln (s2P tn ln i) := HF_s h2' hm.1 (by show ¬ dst tn (s2P tn ln i) = 7; omega)
    obtain ⟨h6, h7, h8⟩ := num_ok (Or.inr rfl) d2 h5 hd2.1 hd2.2
    rw [e]
    have g1 : s2P tn ln i = i + 1 + nlN tn ln (i + 1) + 1 := rfl
    have g2 := nl_in tn ln (s2P tn ln i)
    exact ⟨h6, by omega, h7, h8⟩
theorem cmd_no {tn : Nat → Nat} {ln i : Nat} (hd : dst tn i = 0) (h : HF tn ln i) (hw : ¬ WC tn ln i) : FE tn ln = (erP tn ln i : Int) ∧ erP tn ln i ≤ ln := by
  by_cases c1 : i < ln ∧ (isSh (tn i) ∨ tn i = 112)
  · by_cases cs : isSh (tn i)
    · exact absurd ⟨c1.1, Or.inl cs⟩ hw
    · have hp : tn i = 112 := c1.2.resolve_left cs
      have d : dst tn (i + 1) = 1 := by rw [dst_s, hd]; unfold dueA; rw [if_pos rfl, if_pos hp]
      have h1 := HF_s h c1.1 (by omega)
      by_cases c2 : i + 1 < ln ∧ isDg (tn (i + 1))
      · obtain ⟨h2, h3, h4⟩ := num_ok (Or.inl rfl) d h1 c2.1 c2.2
        have h2' : HF tn ln (mkP tn ln i) := h2
        have h3' : dst tn (mkP tn ln i) = 2 ∨ dst tn (mkP tn ln i) = 3 := h3
        have h4' : dst tn (mkP tn ln i) = 2 → ¬ (mkP tn ln i < ln ∧ isDg (tn (mkP tn ln i))) := h4
        by_cases c3 : mkP tn ln i < ln ∧ tn (mkP tn ln i) = 61
        · have d2 : dst tn (s2P tn ln i) = 4 := by
            show dueA (dst tn (mkP tn ln i)) (tn (mkP tn ln i)) = 4
            rw [c3.2]; rcases h3' with q | q <;> rw [q] <;> rfl
          have h5 : HF tn ln (s2P tn ln i) := HF_s h2' c3.1 (by show ¬ dst tn (s2P tn ln i) = 7; omega)
          have e : erP tn ln i = s2P tn ln i := by unfold erP; rw [if_neg (fun z => z c1), if_neg (fun z => z c2), if_neg (fun z => z c3)]
          rw [e]
          exact ⟨num_no (Or.inr rfl) d2 h5 (fun z => hw ⟨c1.1, Or.inr ⟨hp, c2, c3, z⟩⟩), h5.1⟩
        · have e : erP tn ln i = mkP tn ln i := by unfold erP; rw [if_neg (fun z => z c1), if_neg (fun z => z c2), if_pos c3]
          rw [e]
          refine ⟨?_, h2'.1⟩
          by_cases c4 : mkP tn ln i < ln
          · refine HF_x h2' c4 ?_
            have n61 : ¬ tn (mkP tn ln i) = 61 := fun z => c3 ⟨c4, z⟩
            rw [dst_s]
            rcases h3' with q | q
            · have nd : ¬ (48 ≤ tn (mkP tn ln i) ∧ tn (mkP tn ln i) ≤ 57) := fun z => h4' q ⟨c4, z⟩
              rw [q]; unfold dueA isDg; (repeat' split) <;> omega
            · rw [q]; unfold dueA; (repeat' split) <;> omega
          · exact HF_e h2' c4 (by omega)
      · have e : erP tn ln i = i + 1 := by unfold erP; rw [if_neg (fun z => z c1), if_pos c2]
        rw [e]
        exact ⟨num_no (Or.inl rfl) d h1 c2, h1.1⟩
  · have e : erP tn ln i = i := by unfold erP; rw [if_pos c1]
    rw [e]
    refine ⟨?_, h.1⟩
    by_cases c4 : i < ln
    · refine HF_x h c4 ?_
      have n1 : ¬ (tn i = 117 ∨ tn i = 100 ∨ tn i = 108 ∨ tn i = 114 ∨ tn i = 115 ∨ tn i = 120) := fun z => c1 ⟨c4, Or.inl z⟩
      have n2 : ¬ tn i = 112 := fun z => c1 ⟨c4, Or.inr z⟩
      rw [dst_s, hd]; unfold dueA isSh; (repeat' split) <;> omega
    · exact HF_e h c4 (by omega)
/-- behind a command -/
theorem semi_ok {tn : Nat → Nat} {ln j : Nat} (h : HF tn ln j) (hd : dst tn j = 5 ∨ dst tn j = 6) (hj : j < ln) (hs : tn j = 59) : HF tn ln (j + 1) ∧ dst tn (j + 1) = 0 := by
  have d : dst tn (j + 1) = 0 := by rw [dst_s, hs]; rcases hd with q | q <;> rw [q] <;> rfl
  exact ⟨HF_s h hj (by omega), d⟩
theorem semi_no {tn : Nat → Nat} {ln j : Nat} (h : HF tn ln j) (hd : dst tn j = 5 ∨ dst tn j = 6) (hn : dst tn j = 5 → ¬ (j < ln ∧ isDg (tn j))) (hj : j < ln) (hs : ¬ tn j = 59) : FE tn ln = (j : Int) := by
  refine HF_x h hj ?_
  rw [dst_s]
  rcases hd with q | q
  · have nd : ¬ (48 ≤ tn j ∧ tn j ≤ 57) := fun z => hn q ⟨hj, z⟩
    rw [q]; unfold dueA isDg; (repeat' split) <;> omega
  · rw [q]; unfold dueA; (repeat' split) <;> omega
/-- no ';' within a command -/
theorem cmd_in {tn : Nat → Nat} {ln i : Nat} (hw : WC tn ln i) : ∀ k, i ≤ k → k < ceP tn ln i → ¬ tn k = 59 := by
  intro k h1 h2
  obtain ⟨hi, hw⟩ := hw
  rcases hw with hs | ⟨hp, hd1, hm, hd2⟩
  · have hs9 : tn i = 117 ∨ tn i = 100 ∨ tn i = 108 ∨ tn i = 114 ∨ tn i = 115 ∨ tn i = 120 := hs
    have e : ceP tn ln i = i + 1 := by unfold ceP; rw [if_neg (by omega)]
    have : k = i := by omega
    subst this; omega
  · have e : ceP tn ln i = s2P tn ln i + nlN tn ln (s2P tn ln i) := by unfold ceP; rw [if_pos hp]
    have num : ∀ s, isDg (tn s) → ∀ k, s ≤ k → k < s + nlN tn ln s → ¬ tn k = 59 := by
      intro s hg k a b
      have hg9 : 48 ≤ tn s ∧ tn s ≤ 57 := hg
      by_cases c : tn s = 48 ∨ ¬ (s + 1 < ln ∧ isDg (tn (s + 1)))
      · rw [(nl_1 c).1] at b
        have : k = s := by omega
        subst this; omega
      · have c2 : s + 1 < ln ∧ isDg (tn (s + 1)) := Classical.byContradiction fun z => c (Or.inr z)
        have hc9 : 48 ≤ tn (s + 1) ∧ tn (s + 1) ≤ 57 := c2.2
        rw [(nl_2 (fun z => c (Or.inl z)) c2).1] at b
        rcases (show k = s ∨ k = s + 1 by omega) with rfl | rfl <;> omega
    have g1 : s2P tn ln i = i + 1 + nlN tn ln (i + 1) + 1 := rfl
    have g2 : mkP tn ln i = i + 1 + nlN tn ln (i + 1) := rfl
    rcases (show k = i ∨ (i + 1 ≤ k ∧ k < i + 1 + nlN tn ln (i + 1)) ∨ k = mkP tn ln i ∨ (s2P tn ln i ≤ k ∧ k < s2P tn ln i + nlN tn ln (s2P tn ln i)) by omega) with h | ⟨h, h'⟩ | h | ⟨h, h'⟩
    · subst h; omega
    · exact num _ hd1.2 k h h'
    · subst h; have := hm.2; omega
    · exact num _ hd2.2 k h h'
/-- the numbers as the class reads them -/
theorem an_num {tn : Nat → Nat} {ln s : Nat} (hs : s < ln) (hg : isDg (tn s)) (he : ¬ (s + nlN tn ln s < ln ∧ isDg (tn (s + nlN tn ln s)))) : AN tn ln s = s + nlN tn ln s ∧ nbZ tn ln s (AN tn ln s - s) = (nvN tn ln s : Int) := by
  have hg9 : 48 ≤ tn s ∧ tn s ≤ 57 := hg
  by_cases c : tn s = 48 ∨ ¬ (s + 1 < ln ∧ isDg (tn (s + 1)))
  · have e := nl_1 c
    rw [e.1] at he ⊢
    have ea : AN tn ln s = s + 1 := by rw [AN_s hs hg]; exact AN_x he
    rw [ea, e.2]
    refine ⟨rfl, ?_⟩
    have e1 : s + 1 - s = 1 := by omega
    rw [e1]
    show 10 * (0 : Int) + ((sgn tn ln (s + 0) : Nat) - 48 : Int) = _
    rw [Nat.add_zero, ← sgn_in hs]; omega
  · have c2 : s + 1 < ln ∧ isDg (tn (s + 1)) := Classical.byContradiction fun z => c (Or.inr z)
    have hc9 : 48 ≤ tn (s + 1) ∧ tn (s + 1) ≤ 57 := c2.2
    have e := nl_2 (fun z => c (Or.inl z)) c2
    rw [e.1] at he ⊢
    have ea : AN tn ln s = s + 2 := by rw [AN_s hs hg, AN_s c2.1 c2.2]; exact AN_x he
    rw [ea, e.2]
    refine ⟨rfl, ?_⟩
    have e1 : s + 2 - s = 2 := by omega
    rw [e1]
    show 10 * (10 * (0 : Int) + ((sgn tn ln (s + 0) : Nat) - 48 : Int)) + ((sgn tn ln (s + 1) : Nat) - 48 : Int) = _
    rw [Nat.add_zero, ← sgn_in hs, ← sgn_in c2.1]; omega
/-! what a command does -/
def scR (ss : Nat → Int) (dy dx : Int) : Nat → Int := (tkm ss dy dx ss 64).1
def sdX (ss : Nat → Int) (lost : Nat) : Nat → Int :=
  if (ss 194).toNat % (ss 193).toNat = 0 then sdR ss (dS ss) (dS ss) (fun _ => 0) (BEST (dS ss) (tS ss)) 264 lost
  else sdR ss (nT (dS ss) (tS ss) (ss 192).toNat) (nG (dS ss) (tS ss) (rS ss) (ss 192).toNat) (knN (dS ss) (tS ss) (ss 192).toNat) (BEST (dS ss) (tS ss)) (ABM (dS ss) (tS ss) (COM (dS ss) (tS ss) (ss 192).toNat) 4) lost
def sdB (ss : Nat → Int) : Nat := if (ss 194).toNat % (ss 193).toNat = 0 then 264 else ABM (dS ss) (tS ss) (COM (dS ss) (tS ss) (ss 192).toNat) 4
def exF (tn : Nat → Nat) (ln i : Nat) (ss : Nat → Int) : Option (Nat → Int) :=
  if tn i = 112 then (if nvN tn ln (i + 1) < 64 ∧ nvN tn ln (s2P tn ln i) ≤ 15 then some (va_up ss (nvN tn ln (i + 1)) ((nvN tn ln (s2P tn ln i) : Nat) : Int)) else none)
  else if tn i = 117 then some (scR ss 1 0) else if tn i = 100 then some (scR ss (-1) 0) else if tn i = 108 then some (scR ss 0 1) else if tn i = 114 then some (scR ss 0 (-1))
  else if ss 194 < 999 then some (sdX ss (if tn i = 120 then 1 else 0)) else none
def exR (tn : Nat → Nat) (ln i : Nat) (ss : Nat → Int) : Nat := if (exF tn ln i ss).isSome then 1 else 0
def exS (tn : Nat → Nat) (ln i : Nat) (ss : Nat → Int) : Nat → Int := (exF tn ln i ss).getD ss
theorem ex_some {tn : Nat → Nat} {ln i : Nat} {ss s' : Nat → Int} (h : exF tn ln i ss = some s') : exR tn ln i ss = 1 ∧ exS tn ln i ss = s' := by unfold exR exS; rw [h]; exact ⟨rfl, rfl⟩
theorem ex_none {tn : Nat → Nat} {ln i : Nat} {ss : Nat → Int} (h : exF tn ln i ss = none) : exR tn ln i ss = 0 ∧ exS tn ln i ss = ss := by unfold exR exS; rw [h]; exact ⟨rfl, rfl⟩
theorem exR_le (tn : Nat → Nat) (ln i : Nat) (ss : Nat → Int) : exR tn ln i ss ≤ 1 := by unfold exR; split <;> omega
/-- the commands from i on, in order, up to the first one that fails: the row behind them, how many -/
def rC (tn : Nat → Nat) (ln : Nat) : Nat → Nat → (Nat → Int) → Nat → (Nat → Int) × Nat
  | 0, _, ss, dn => (ss, dn)
  | n + 1, i, ss, dn => if exR tn ln i ss = 0 then (ss, dn) else if ceP tn ln i < ln then rC tn ln n (ceP tn ln i + 1) (exS tn ln i ss) (dn + 1) else (exS tn ln i ss, dn + 1)
theorem ce_gt (tn : Nat → Nat) (ln i : Nat) : i < ceP tn ln i := by
  unfold ceP
  split
  · unfold s2P mkP; omega
  · omega
