/-- where the class stands in the text -/
def RT (tn : Nat → Nat) (ln i c n fl dn : Nat) (s9 : Nat → Int) (R : (Nat → Int) × Nat) : Prop :=
  (fl = 1 ∧ (s9, dn) = R) ∨ (fl = 0 ∧ (∀ q, i ≤ q → q < ln → ¬ (q = 0 ∨ sgn tn ln (q - 1) = 59)) ∧ (s9, dn) = R) ∨
  (fl = 0 ∧ i ≤ c ∧ c < ln ∧ (∀ q, i ≤ q → q < c → ¬ (q = 0 ∨ sgn tn ln (q - 1) = 59)) ∧ (c = 0 ∨ sgn tn ln (c - 1) = 59) ∧ dst tn c = 0 ∧ HF tn ln c ∧ ln - c < n ∧ rC tn ln n c s9 dn = R)
theorem RT_0 {tn : Nat → Nat} {ln : Nat} {ss : Nat → Int} (hok : FE tn ln = -1) : RT tn ln 0 0 (ln + 1) 0 0 ss (rC tn ln (ln + 1) 0 ss 0) := by
  by_cases h : 0 < ln
  · exact Or.inr (Or.inr ⟨rfl, Nat.le_refl 0, h, fun q _ h2 => absurd h2 (Nat.not_lt_zero q), Or.inl rfl, rfl, HF_0 tn ln, by omega, rfl⟩)
  · exact absurd ((HF_e (HF_0 tn ln) h (by show ¬ (0 = 5 ∨ 0 = 6); omega)).symm.trans hok) (by omega)
theorem RT_end {tn : Nat → Nat} {ln i c n fl dn : Nat} {s9 : Nat → Int} {R : (Nat → Int) × Nat} (h : RT tn ln i c n fl dn s9 R) (q : ln ≤ i ∨ ¬ fl = 0) : (s9, dn) = R := by
  rcases h with h | h | h
  · exact h.2
  · exact h.2.2
  · have h1 := h.1
    have h2 := h.2.1
    have h3 := h.2.2.1
    omega
theorem RT_skip {tn : Nat → Nat} {ln i c n fl dn : Nat} {s9 : Nat → Int} {R : (Nat → Int) × Nat} (h : RT tn ln i c n fl dn s9 R) (hs : ¬ (i = 0 ∨ sgn tn ln (i - 1) = 59)) : RT tn ln (i + 1) c n fl dn s9 R := by
  rcases h with h | ⟨h1, h2, h3⟩ | ⟨h1, h2, h3, h4, h5, h6⟩
  · exact Or.inl h
  · exact Or.inr (Or.inl ⟨h1, fun q a b => h2 q (by omega) b, h3⟩)
  · have : ¬ i = c := fun z => hs (by rw [z]; exact h5)
    exact Or.inr (Or.inr ⟨h1, by omega, h3, fun q a b => h4 q (by omega) b, h5, h6⟩)
theorem RT_at {tn : Nat → Nat} {ln i c n fl dn : Nat} {s9 : Nat → Int} {R : (Nat → Int) × Nat} (h : RT tn ln i c n fl dn s9 R) (hi : i < ln) (hf : fl = 0) (hs : i = 0 ∨ sgn tn ln (i - 1) = 59) : i = c ∧ dst tn i = 0 ∧ HF tn ln i ∧ ln - i < n ∧ rC tn ln n i s9 dn = R := by
  rcases h with h | ⟨h1, h2, h3⟩ | ⟨h1, h2, h3, h4, h5, h6, h7, h8, h9⟩
  · omega
  · exact absurd hs (h2 i (Nat.le_refl i) hi)
  · have e : i = c := by
      rcases Nat.lt_or_ge i c with q | q
      · exact absurd hs (h4 i (Nat.le_refl i) q)
      · omega
    subst e
    exact ⟨rfl, h6, h7, h8, h9⟩
theorem RT_go {tn : Nat → Nat} {ln i c n fl dn : Nat} {s9 : Nat → Int} {R : (Nat → Int) × Nat} (hok : FE tn ln = -1) (h : RT tn ln i c n fl dn s9 R) (hi : i < ln) (hf : fl = 0) (hs : i = 0 ∨ sgn tn ln (i - 1) = 59) : WC tn ln i ∧ (ceP tn ln i < ln → tn (ceP tn ln i) = 59) ∧ ¬ (ceP tn ln i < ln ∧ isDg (tn (ceP tn ln i))) := by
  obtain ⟨-, h2, h3, -, -⟩ := RT_at h hi hf hs
  have hw : WC tn ln i := Classical.byContradiction fun z => er_ne _ ((cmd_no h2 h3 z).1.symm.trans hok)
  obtain ⟨a1, a2, a3, a4⟩ := cmd_ok h2 h3 hw
  have key : ceP tn ln i < ln → tn (ceP tn ln i) = 59 := fun z => Classical.byContradiction fun y => er_ne _ ((semi_no a1 a3 a4 z y).symm.trans hok)
  refine ⟨hw, key, fun z => ?_⟩
  have z2 : 48 ≤ tn (ceP tn ln i) ∧ tn (ceP tn ln i) ≤ 57 := z.2
  have := key z.1
  omega
theorem RT_y {tn : Nat → Nat} {ln i c n fl dn : Nat} {s9 : Nat → Int} {R : (Nat → Int) × Nat} (hok : FE tn ln = -1) (h : RT tn ln i c n fl dn s9 R) (hi : i < ln) (hf : fl = 0) (hs : i = 0 ∨ sgn tn ln (i - 1) = 59) (hr : ¬ exR tn ln i s9 = 0) : RT tn ln (i + 1) (ceP tn ln i + 1) (n - 1) 0 (dn + 1) (exS tn ln i s9) R := by
  obtain ⟨-, h2, h3, h4, h5⟩ := RT_at h hi hf hs
  obtain ⟨hw, hk, -⟩ := RT_go hok h hi hf hs
  obtain ⟨a1, a2, a3, a4⟩ := cmd_ok h2 h3 hw
  have hq : ∀ q, i + 1 ≤ q → q ≤ ceP tn ln i → q < ln + 1 → ¬ (q = 0 ∨ sgn tn ln (q - 1) = 59) := by
    rintro q b1 b2 b3 (z | z)
    · omega
    · rw [← sgn_in (show q - 1 < ln by omega)] at z
      exact cmd_in hw (q - 1) (by omega) (by omega) z
  rw [rC_s hr (by omega)] at h5
  by_cases c1 : ceP tn ln i < ln
  · rw [if_pos c1] at h5
    obtain ⟨b1, b2⟩ := semi_ok a1 a3 c1 (hk c1)
    have c2 : ceP tn ln i + 1 < ln := by
      rcases Nat.lt_or_ge (ceP tn ln i + 1) ln with q | q
      · exact q
      · exact absurd ((HF_e b1 (by omega) (by omega)).symm.trans hok) (er_ne _)
    refine Or.inr (Or.inr ⟨rfl, by omega, c2, fun q d1 d2 => hq q d1 (by omega) (by omega), Or.inr ?_, b2, b1, by omega, h5⟩)
    have e : ceP tn ln i + 1 - 1 = ceP tn ln i := by omega
    rw [e, ← sgn_in c1]; exact hk c1
  · rw [if_neg c1] at h5
    have := a1.1
    exact Or.inr (Or.inl ⟨rfl, fun q d1 d2 => hq q d1 (by omega) (by omega), h5⟩)
theorem RT_n {tn : Nat → Nat} {ln i c n fl dn : Nat} {s9 : Nat → Int} {R : (Nat → Int) × Nat} (h : RT tn ln i c n fl dn s9 R) (hi : i < ln) (hf : fl = 0) (hs : i = 0 ∨ sgn tn ln (i - 1) = 59) (hr : exR tn ln i s9 = 0) : RT tn ln (i + 1) c n 1 dn (exS tn ln i s9) R := by
  obtain ⟨-, -, -, -, h5⟩ := RT_at h hi hf hs
  exact Or.inl ⟨rfl, (rC_f hr).symm.trans h5⟩

set_option maxHeartbeats 4000000 in
set_option maxRecDepth 100000 in
theorem c_X8_runText {l : Launch} {G : GT} {H0 : Heap} (a : Nat → Nat) (v : SVT) (mo ki : Nat → Nat) (pr df : Nat → Int) (co : Int32) (bi : Nat) (g9 : Nat → Int32) (lr : Nat) (bf : Nat → Int) (tn : Nat → Nat) (ln nx ct : Nat) (hv : Nat → SVT) (v0 : SVT) (k0 : Nat) (v1 : SVT) (k1 : Nat) (ss : Nat → Int) (k o : Nat → Nat) (hnx : nx < 6) (hct : ct ≤ 6) (htn : T128 tn) (hln : ln ≤ 80) (hvo : v = vOf ss k o) (hM : MR ss) (hKO : KO ss k o) (hdf : D15 df) (hmo : M25 mo) (hok : FE tn ln = -1) (hP0 : PP G (xW G a v mo ki pr df co bi g9 lr bf tn ln nx ct hv v0 k0 v1 k1) H0) (hB0 : va_D (lo G) (xW G a v mo ki pr df co bi g9 lr bf tn ln nx ct hv v0 k0 v1 k1)) : Met l yX8_runText wsX8_runText ({ frames := 6, cells := 0, slots := 0, locals := 143 } : Room) (pcG G [.ref (a 0)] H0) (qMi G (fun (r : Int32) (u : SVT × (Nat → Nat) × (Nat → Nat) × (Nat → Nat) × (Nat → Nat) × (Nat → Int) × (Nat → Int) × Int32 × Nat × (Nat → Int)) => u.1 = vOf (rC tn ln (ln + 1) 0 ss 0).1 u.2.1 u.2.2.1 ∧ KO (rC tn ln (ln + 1) 0 ss 0).1 u.2.1 u.2.2.1 ∧ M25 u.2.2.2.1 ∧ D15 u.2.2.2.2.2.2.1 ∧ r = nI (rC tn ln (ln + 1) 0 ss 0).2) (fun (u : SVT × (Nat → Nat) × (Nat → Nat) × (Nat → Nat) × (Nat → Nat) × (Nat → Int) × (Nat → Int) × Int32 × Nat × (Nat → Int)) => xW G a u.1 u.2.2.2.1 u.2.2.2.2.1 u.2.2.2.2.2.1 u.2.2.2.2.2.2.1 u.2.2.2.2.2.2.2.1 u.2.2.2.2.2.2.2.2.1 g9 lr u.2.2.2.2.2.2.2.2.2 tn 0 ((nx + 1) % 6) (min (ct + 1) 6) (va_up hv nx v) v0 k0 v1 k1) (xW G a v mo ki pr df co bi g9 lr bf tn ln nx ct hv v0 k0 v1 k1) H0) 0 0 (va_A (xW G a v mo ki pr df co bi g9 lr bf tn ln nx ct hv v0 k0 v1 k1) H0.size) := by
  refine enter (cc := cX8_runText) (maxL := 4) (ret := some .int) (own := RX8) (lv := [(0, .ref (a 0))]) (by decide) rfl rfl rfl (Nat.le_of_ble_eq_true rfl) ?_
  intro pg ev s m below meth c hx hb hr hts hown hlocks hml hnm hH hC ls hl
  subst hH
  have hLo := va_freeB hB0 hC.2.2.2.1
  have hD := hB0.self (sz := s.heap.size)
  have hS : va_S (va_A (xW G a v mo ki pr df co bi g9 lr bf tn ln nx ct hv v0 k0 v1 k1) s.heap.size) s.heap s.heap [] := va_S.rf
  unfold qMi
  generalize hAe : va_A (xW G a v mo ki pr df co bi g9 lr bf tn ln nx ct hv v0 k0 v1 k1) s.heap.size = A at hD hLo hS ⊢
  have hA : ∀ q, s.heap.size ≤ q → A q := fun q h => by rw [← hAe]; exact Or.inr h
  generalize ([] : List Loc) = locs at hS ⊢
  have hP := hP0
  refine lv_aload_n hx hb dX8_runText_0 rfl (lv_at hl 0 rfl) ?_
  refine va_get (D := gD G) (cl := vwCl) (tys := tyl G) (ci := 7) (v := .ref (a 20)) (C := RX8) (T := TX8) (N := 8) hx hb hts (by decide +kernel) hown hC.K hP 0 rfl rfl 4 (by decide) (hts (.fieldLink RX8 40 "MotionPost" "text" "LMotionPost$CommandText;") (by decide +kernel)) (fun _ h9 => h9) rfl dX8_runText_1 ?_
  refine kPi (va_runVN (As := []) (rest := []) ⟨hx, hb, hml, hown, hts⟩ (c_X1_firstError (a 20) (a 21) tn ln (by first | assumption | omega) (by first | assumption | omega) (hP.sub [20, 21] rfl)) ⟨va_cnB 0 hts gX8_runText_X1_firstError_n208 rfl rfl rfl (hC.nest 49 rfl) (hts (.initialized RX1) (by decide +kernel)) (by decide +kernel) ⟨Nat.le_of_ble_eq_true rfl, Nat.le_of_ble_eq_true rfl⟩, (hts (.instanceMethod yX1_firstError) (by decide +kernel)), (hts (.selects RX1 yX1_firstError yX1_firstError) (by decide +kernel))⟩ (preV hC hS hLo hP (ci := 1) (q0 := 20) rfl rfl) rfl rfl hl.1 rfl (lv_room (Nat.le_of_ble_eq_true rfl)) dX8_runText_4 ⟨Nat.zero_le _, Nat.zero_le _⟩) hS (fun locs hS => ?_)
  refine topE (v' := iI (-1)) (by rw [hok]) ?_
  refine lv_iconst (v := iI (-1)) hx hb dX8_runText_7 (by decide) ?_
  refine lv_icmp_eq (tgt := 21) hx hb dX8_runText_8 (by decide) (fun c_1 => ?_) (fun c_1 => ?_)
  · have f_2 : (-1) = (-1) := (c_eq (iI_toInt (by omega) (by omega)) (iI_toInt (by omega) (by omega))).mp c_1
    refine lv_aload_n hx hb dX8_runText_21 rfl (lv_at hl 0 rfl) ?_
    refine va_get (D := gD G) (cl := vwCl) (tys := tyl G) (ci := 7) (v := .ref (a 22)) (C := RX8) (T := TX8) (N := 8) hx hb hts (by decide +kernel) hown hC.K hP 0 rfl rfl 5 (by decide) (hts (.fieldLink RX8 47 "MotionPost" "history" "LMotionPost$History;") (by decide +kernel)) (fun _ h9 => h9) rfl dX8_runText_22 ?_
    refine lv_aload_n hx hb dX8_runText_25 rfl (lv_at hl 0 rfl) ?_
    refine va_get (D := gD G) (cl := vwCl) (tys := tyl G) (ci := 7) (v := .ref (a 1)) (C := RX8) (T := TX8) (N := 8) hx hb hts (by decide +kernel) hown hC.K hP 0 rfl rfl 0 (by decide) (hts (.fieldLink RX8 12 "MotionPost" "now" "LMotionPost$State;") (by decide +kernel)) (fun _ h9 => h9) rfl dX8_runText_26 ?_
    have hP : PP G ((xoW a) ++ (stW G (a 1) (a 2) (a 3) (a 4) (a 5) (a 6) (a 7) (a 8) (a 9) v ++ ((mdW G a mo ki pr df co bi g9 lr bf tn ln) ++ (hsW G a nx ct hv ++ (rrW G a v0 k0 v1 k1))))) s.heap := hP
    have hD : va_D A ((xoW a) ++ (stW G (a 1) (a 2) (a 3) (a 4) (a 5) (a 6) (a 7) (a 8) (a 9) v ++ ((mdW G a mo ki pr df co bi g9 lr bf tn ln) ++ (hsW G a nx ct hv ++ (rrW G a v0 k0 v1 k1))))) := hD
    have hPc := f2_P hP
    have hDc := (f2_D hD).weaken (fun _ _ _ h => hLo _ h)
    refine kF2 (P1 := xoW a) (P2 := mdW G a mo ki pr df co bi g9 lr bf tn ln) (P3 := rrW G a v0 k0 v1 k1) (va_runVN (As := [.ref (a 1)]) (rest := []) ⟨hx, hb, hml, hown, hts⟩ (c_X2_record a v nx ct hv hnx hct hPc hDc) ⟨va_cnB 1 hts gX8_runText_X2_record_n69 rfl rfl rfl (hC.nest 50 rfl) (hts (.initialized RX2) (by decide +kernel)) (by decide +kernel) ⟨Nat.le_of_ble_eq_true rfl, Nat.le_of_ble_eq_true rfl⟩, (hts (.instanceMethod yX2_record) (by decide +kernel)), (hts (.selects RX2 yX2_record yX2_record) (by decide +kernel))⟩ (preV hC hS hLo hPc (ci := 2) (q0 := 9) rfl rfl) rfl rfl hl.1 rfl (lv_room (Nat.le_of_ble_eq_true rfl)) dX8_runText_29 ⟨Nat.zero_le _, Nat.zero_le _⟩) hP hD hS hA rfl rfl (fun H locs hP hD hS => ?_)
    have hP : PP G (xW G a v mo ki pr df co bi g9 lr bf tn ln ((nx + 1) % 6) (min (ct + 1) 6) (va_up hv nx v) v0 k0 v1 k1) H := hP
    have hD : va_D A (xW G a v mo ki pr df co bi g9 lr bf tn ln ((nx + 1) % 6) (min (ct + 1) 6) (va_up hv nx v) v0 k0 v1 k1) := hD
    refine lv_iconst (v := nI (0)) hx hb dX8_runText_32 (by decide) ?_
    refine lv_istore_n (lv' := [(1, .int (nI (0))), (0, .ref (a 0))]) hx hb dX8_runText_33 rfl hl (by decide) rfl (fun ls hl => ?_)
    refine lv_iconst (v := nI (0)) hx hb dX8_runText_34 (by decide) ?_
    refine lv_istore_n (lv' := [(2, .int (nI (0))), (1, .int (nI (0))), (0, .ref (a 0))]) hx hb dX8_runText_35 rfl hl (by decide) rfl (fun ls hl => ?_)
    refine lv_iconst (v := nI (0)) hx hb dX8_runText_36 (by decide) ?_
    refine lv_istore_n (lv' := [(3, .int (nI (0))), (2, .int (nI (0))), (1, .int (nI (0))), (0, .ref (a 0))]) hx hb dX8_runText_37 rfl hl (by decide) rfl (fun ls hl => ?_)
    have L_38 : ∀ (n_38 : Nat) (i c9 n fl dn : Nat) (s9 : Nat → Int) (k9 o9 : Nat → Nat) (v9 : SVT) (mo9 ki9 : Nat → Nat) (pr9 df9 : Nat → Int) (co9 : Int32) (bi9 : Nat) (bf9 : Nat → Int), ln - i < n_38 → (i ≤ ln) → (fl ≤ 1) → (v9 = vOf s9 k9 o9) → (MR s9) → (KO s9 k9 o9) → (M25 mo9) → (D15 df9) → (RT tn ln i c9 n fl dn s9 (rC tn ln (ln + 1) 0 ss 0)) → ∀ (H : Heap) (locs : List Loc) (ls : Array Slot), PP G (xW G a v9 mo9 ki9 pr9 df9 co9 bi9 g9 lr bf9 tn ln ((nx + 1) % 6) (min (ct + 1) 6) (va_up hv nx v) v0 k0 v1 k1) H → va_D A (xW G a v9 mo9 ki9 pr9 df9 co9 bi9 g9 lr bf9 tn ln ((nx + 1) % 6) (min (ct + 1) 6) (va_up hv nx v) v0 k0 v1 k1) → va_S A s.heap H locs → lv_has ls 4 [(0, .ref (a 0)), (1, .int (nI (dn))), (2, .int (nI (fl))), (3, .int (nI (i)))] → W pg l ev ({ frames := 6, cells := 0, slots := 0, locals := 143 } : Room) s m (([.ref (a 0)] : List Value).toArray) below meth c H locs 0 0 (MQ below (va_Qi (fun (r : Int32) (u : SVT × (Nat → Nat) × (Nat → Nat) × (Nat → Nat) × (Nat → Nat) × (Nat → Int) × (Nat → Int) × Int32 × Nat × (Nat → Int)) => u.1 = vOf (rC tn ln (ln + 1) 0 ss 0).1 u.2.1 u.2.2.1 ∧ KO (rC tn ln (ln + 1) 0 ss 0).1 u.2.1 u.2.2.1 ∧ M25 u.2.2.2.1 ∧ D15 u.2.2.2.2.2.2.1 ∧ r = nI (rC tn ln (ln + 1) 0 ss 0).2) (fun (u : SVT × (Nat → Nat) × (Nat → Nat) × (Nat → Nat) × (Nat → Nat) × (Nat → Int) × (Nat → Int) × Int32 × Nat × (Nat → Int)) t9 => PP G (xW G a u.1 u.2.2.2.1 u.2.2.2.2.1 u.2.2.2.2.2.1 u.2.2.2.2.2.2.1 u.2.2.2.2.2.2.2.1 u.2.2.2.2.2.2.2.2.1 g9 lr u.2.2.2.2.2.2.2.2.2 tn 0 ((nx + 1) % 6) (min (ct + 1) 6) (va_up hv nx v) v0 k0 v1 k1) t9.heap) A) (([.ref (a 0)] : List Value).toArray) s 0 0 A) (F0 m 38 ls []) := by
      intro n_38
      induction n_38 with
      | zero => intro i c9 n fl dn s9 k9 o9 v9 mo9 ki9 pr9 df9 co9 bi9 bf9 hn; exact absurd hn (Nat.not_lt_zero _)
      | succ n_38 ih_38 =>
        intro i c9 n fl dn s9 k9 o9 v9 mo9 ki9 pr9 df9 co9 bi9 bf9 hn_38 hil hfl hv9 hM9 hK9 hm9 hd9 hst H locs ls hP hD hS hl
        refine lv_iload_n hx hb dX8_runText_38 rfl (lv_at hl 3 rfl) ?_
        refine lv_aload_n hx hb dX8_runText_39 rfl (lv_at hl 0 rfl) ?_
        refine va_get (D := gD G) (cl := vwCl) (tys := tyl G) (ci := 7) (v := .ref (a 20)) (C := RX8) (T := TX8) (N := 8) hx hb hts (by decide +kernel) hown hC.K hP 0 rfl rfl 4 (by decide) (hts (.fieldLink RX8 40 "MotionPost" "text" "LMotionPost$CommandText;") (by decide +kernel)) (fun _ h9 => h9) rfl dX8_runText_40 ?_
        refine va_getN (D := gD G) (cl := vwCl) (tys := tyl G) (ci := 1) (v := .int (nI (ln))) (C := RX1) (T := TX1) (N := 2) (host := "MotionPost") (ref := "MotionPost$CommandText") hx hb hts (by decide +kernel) hown hC.K (xW_txt hP) 1 rfl rfl 1 (by decide) (hC.nestW 25 rfl rfl) (fun _ h9 => h9) rfl dX8_runText_43 ?_
        refine lv_icmp_ge (tgt := 96) hx hb dX8_runText_46 (by decide) (fun c_3 => ?_) (fun c_3 => ?_)
        · have f_4 : ((ln : Nat) : Int) ≤ ((i : Nat) : Int) := (c_le (nI_toInt (n := ln) (by omega)) (nI_toInt (n := i) (by omega))).mp c_3
          refine lv_aload_n hx hb dX8_runText_96 rfl (lv_at hl 0 rfl) ?_
          refine va_get (D := gD G) (cl := vwCl) (tys := tyl G) (ci := 7) (v := .ref (a 20)) (C := RX8) (T := TX8) (N := 8) hx hb hts (by decide +kernel) hown hC.K hP 0 rfl rfl 4 (by decide) (hts (.fieldLink RX8 40 "MotionPost" "text" "LMotionPost$CommandText;") (by decide +kernel)) (fun _ h9 => h9) rfl dX8_runText_97 ?_
          refine lv_iconst (v := nI (0)) hx hb dX8_runText_100 (by decide) ?_
          refine va_putN (D := gD G) (cl := vwCl) (tys := tyl G) (ci := 1) (v := .int (nI (0))) (ty := .int) (C := RX1) (T := TX1) (N := 2) (host := "MotionPost") (ref := "MotionPost$CommandText") hx hb hts (by decide +kernel) tyX1 tyX1_ok nmX1 hown hC.K hP hD hS 20 rfl rfl 1 (by decide) (hC.nestW 25 rfl rfl) (fun _ h9 => h9) rfl (by decide +kernel) (rfl) rfl (Nat.le_of_ble_eq_true rfl) dX8_runText_101 (fun H locs hP hD hS => ?_)
          have hP : PP G (xW G a v9 mo9 ki9 pr9 df9 co9 bi9 g9 lr bf9 tn 0 ((nx + 1) % 6) (min (ct + 1) 6) (va_up hv nx v) v0 k0 v1 k1) H := hP
          have hD : va_D A (xW G a v9 mo9 ki9 pr9 df9 co9 bi9 g9 lr bf9 tn 0 ((nx + 1) % 6) (min (ct + 1) 6) (va_up hv nx v) v0 k0 v1 k1) := hD
          refine lv_iload_n hx hb dX8_runText_104 rfl (lv_at hl 1 rfl) ?_
          exact xMi (G := G) (post := (fun (r : Int32) (u : SVT × (Nat → Nat) × (Nat → Nat) × (Nat → Nat) × (Nat → Nat) × (Nat → Int) × (Nat → Int) × Int32 × Nat × (Nat → Int)) => u.1 = vOf (rC tn ln (ln + 1) 0 ss 0).1 u.2.1 u.2.2.1 ∧ KO (rC tn ln (ln + 1) 0 ss 0).1 u.2.1 u.2.2.1 ∧ M25 u.2.2.2.1 ∧ D15 u.2.2.2.2.2.2.1 ∧ r = nI (rC tn ln (ln + 1) 0 ss 0).2)) (w1 := (fun (u : SVT × (Nat → Nat) × (Nat → Nat) × (Nat → Nat) × (Nat → Nat) × (Nat → Int) × (Nat → Int) × Int32 × Nat × (Nat → Int)) => xW G a u.1 u.2.2.2.1 u.2.2.2.2.1 u.2.2.2.2.2.1 u.2.2.2.2.2.2.1 u.2.2.2.2.2.2.2.1 u.2.2.2.2.2.2.2.2.1 g9 lr u.2.2.2.2.2.2.2.2.2 tn 0 ((nx + 1) % 6) (min (ct + 1) 6) (va_up hv nx v) v0 k0 v1 k1)) ((v9, k9, o9, mo9, ki9, pr9, df9, co9, bi9, bf9)) hx hb hr hlocks hP hS (by exact (by have hres := RT_end hst (by omega); have e1 := congrArg Prod.fst hres; have e2 := congrArg Prod.snd hres; simp only at e1 e2; exact ⟨by rw [← e1]; exact hv9, by rw [← e1]; exact hK9, hm9, hd9, congrArg nI e2⟩)) (by exact rfl) dX8_runText_105
        · have f_5 : ¬ ((ln : Nat) : Int) ≤ ((i : Nat) : Int) := fun z => c_3 ((c_le (nI_toInt (n := ln) (by omega)) (nI_toInt (n := i) (by omega))).mpr z)
          refine lv_iload_n hx hb dX8_runText_49 rfl (lv_at hl 2 rfl) ?_
          refine lv_if_ne (tgt := 96) hx hb dX8_runText_50 (by decide) (fun c_6 => ?_) (fun c_6 => ?_)
          · have f_7 : ¬ ((fl : Nat) : Int) = (0 : Int) := fun z => c_6 ((c_eq (nI_toInt (n := fl) (by omega)) rfl).mpr z)
            refine lv_aload_n hx hb dX8_runText_96 rfl (lv_at hl 0 rfl) ?_
            refine va_get (D := gD G) (cl := vwCl) (tys := tyl G) (ci := 7) (v := .ref (a 20)) (C := RX8) (T := TX8) (N := 8) hx hb hts (by decide +kernel) hown hC.K hP 0 rfl rfl 4 (by decide) (hts (.fieldLink RX8 40 "MotionPost" "text" "LMotionPost$CommandText;") (by decide +kernel)) (fun _ h9 => h9) rfl dX8_runText_97 ?_
            refine lv_iconst (v := nI (0)) hx hb dX8_runText_100 (by decide) ?_
            refine va_putN (D := gD G) (cl := vwCl) (tys := tyl G) (ci := 1) (v := .int (nI (0))) (ty := .int) (C := RX1) (T := TX1) (N := 2) (host := "MotionPost") (ref := "MotionPost$CommandText") hx hb hts (by decide +kernel) tyX1 tyX1_ok nmX1 hown hC.K hP hD hS 20 rfl rfl 1 (by decide) (hC.nestW 25 rfl rfl) (fun _ h9 => h9) rfl (by decide +kernel) (rfl) rfl (Nat.le_of_ble_eq_true rfl) dX8_runText_101 (fun H locs hP hD hS => ?_)
            have hP : PP G (xW G a v9 mo9 ki9 pr9 df9 co9 bi9 g9 lr bf9 tn 0 ((nx + 1) % 6) (min (ct + 1) 6) (va_up hv nx v) v0 k0 v1 k1) H := hP
            have hD : va_D A (xW G a v9 mo9 ki9 pr9 df9 co9 bi9 g9 lr bf9 tn 0 ((nx + 1) % 6) (min (ct + 1) 6) (va_up hv nx v) v0 k0 v1 k1) := hD
            refine lv_iload_n hx hb dX8_runText_104 rfl (lv_at hl 1 rfl) ?_
            exact xMi (G := G) (post := (fun (r : Int32) (u : SVT × (Nat → Nat) × (Nat → Nat) × (Nat → Nat) × (Nat → Nat) × (Nat → Int) × (Nat → Int) × Int32 × Nat × (Nat → Int)) => u.1 = vOf (rC tn ln (ln + 1) 0 ss 0).1 u.2.1 u.2.2.1 ∧ KO (rC tn ln (ln + 1) 0 ss 0).1 u.2.1 u.2.2.1 ∧ M25 u.2.2.2.1 ∧ D15 u.2.2.2.2.2.2.1 ∧ r = nI (rC tn ln (ln + 1) 0 ss 0).2)) (w1 := (fun (u : SVT × (Nat → Nat) × (Nat → Nat) × (Nat → Nat) × (Nat → Nat) × (Nat → Int) × (Nat → Int) × Int32 × Nat × (Nat → Int)) => xW G a u.1 u.2.2.2.1 u.2.2.2.2.1 u.2.2.2.2.2.1 u.2.2.2.2.2.2.1 u.2.2.2.2.2.2.2.1 u.2.2.2.2.2.2.2.2.1 g9 lr u.2.2.2.2.2.2.2.2.2 tn 0 ((nx + 1) % 6) (min (ct + 1) 6) (va_up hv nx v) v0 k0 v1 k1)) ((v9, k9, o9, mo9, ki9, pr9, df9, co9, bi9, bf9)) hx hb hr hlocks hP hS (by exact (by have hres := RT_end hst (by omega); have e1 := congrArg Prod.fst hres; have e2 := congrArg Prod.snd hres; simp only at e1 e2; exact ⟨by rw [← e1]; exact hv9, by rw [← e1]; exact hK9, hm9, hd9, congrArg nI e2⟩)) (by exact rfl) dX8_runText_105
          · have f_8 : ((fl : Nat) : Int) = (0 : Int) := (c_eq (nI_toInt (n := fl) (by omega)) rfl).mp c_6
            refine lv_aload_n hx hb dX8_runText_53 rfl (lv_at hl 0 rfl) ?_
            refine va_get (D := gD G) (cl := vwCl) (tys := tyl G) (ci := 7) (v := .ref (a 20)) (C := RX8) (T := TX8) (N := 8) hx hb hts (by decide +kernel) hown hC.K hP 0 rfl rfl 4 (by decide) (hts (.fieldLink RX8 40 "MotionPost" "text" "LMotionPost$CommandText;") (by decide +kernel)) (fun _ h9 => h9) rfl dX8_runText_54 ?_
            refine lv_iload_n hx hb dX8_runText_57 rfl (lv_at hl 3 rfl) ?_
            refine kPi (va_runVN (As := [.int (nI (i))]) (rest := []) ⟨hx, hb, hml, hown, hts⟩ (c_X1_startsCommand (a 20) (a 21) tn ln i (by first | assumption | omega) (by first | assumption | omega) (by first | assumption | omega) (hP.sub [20, 21] rfl)) ⟨va_cnB 1 hts gX8_runText_X1_startsCommand_n214 rfl rfl rfl (hC.nest 74 rfl) (hts (.initialized RX1) (by decide +kernel)) (by decide +kernel) ⟨Nat.le_of_ble_eq_true rfl, Nat.le_of_ble_eq_true rfl⟩, (hts (.instanceMethod yX1_startsCommand) (by decide +kernel)), (hts (.selects RX1 yX1_startsCommand yX1_startsCommand) (by decide +kernel))⟩ (preV hC hS hLo hP (ci := 1) (q0 := 20) rfl rfl) rfl rfl hl.1 rfl (lv_room (Nat.le_of_ble_eq_true rfl)) dX8_runText_58 ⟨Nat.zero_le _, Nat.zero_le _⟩) hS (fun locs hS => ?_)
            refine lv_if_eq (tgt := 90) hx hb dX8_runText_61 (by decide) (fun c_9 => ?_) (fun c_9 => ?_)
            · have f_10 : ¬ (i = 0 ∨ sgn tn ln (i - 1) = 59) := bI_0.mp c_9
              refine lv_iinc (v := nI (i + 1)) (lv' := [(3, .int (nI (i + 1))), (0, .ref (a 0)), (1, .int (nI (dn))), (2, .int (nI (fl)))]) hx hb dX8_runText_90 hl (k := 3) rfl (inc_p i 1) (by decide) rfl (fun ls hl => ?_)
              refine lv_goto (tgt := 38) hx hb dX8_runText_93 (by decide) ?_
              exact ih_38 (i + 1) c9 n fl dn s9 k9 o9 v9 mo9 ki9 pr9 df9 co9 bi9 bf9 (by omega) (by omega) (by omega) hv9 hM9 hK9 hm9 hd9 (RT_skip hst f_10) H locs ls hP hD hS (lv_sub hl [1, 2, 3, 0] ((lvc rfl (lvc rfl (lvc rfl (lvc (congrArg Value.int (rfl)) rfl))))))
            · have f_11 : (i = 0 ∨ sgn tn ln (i - 1) = 59) := Classical.byContradiction (fun z => c_9 (bI_0.mpr z))
              have hgo := RT_go hok hst (by omega) (by omega) f_11
              have hxl := exR_le tn ln i s9
              refine lv_aload_n hx hb dX8_runText_64 rfl (lv_at hl 0 rfl) ?_
              refine lv_iload_n hx hb dX8_runText_65 rfl (lv_at hl 3 rfl) ?_
              rw [xW_y3] at hP hD
              refine kPreI (va_runV (As := [.int (nI (i))]) (rest := []) ⟨hx, hb, hml, hown, hts⟩ (c_exec a v9 mo9 ki9 pr9 df9 co9 bi9 g9 lr bf9 tn ln s9 k9 o9 i (by first | assumption | omega) (by first | assumption | omega) (hgo.1) (hgo.2.2) (hv9) (hM9) (hK9) (hd9) (hm9) (pre_P hP) ((pre_D hD).weaken (fun _ _ _ h => hLo _ h))) (cwV 1 hts gX8_runText_X8_execute rfl rfl rfl (by decide +kernel) ⟨Nat.le_of_ble_eq_true rfl, Nat.le_of_ble_eq_true rfl⟩) (preV hC hS hLo hP (ci := 7) (q0 := 0) rfl rfl) rfl rfl hl.1 rfl (lv_room (Nat.le_of_ble_eq_true rfl)) dX8_runText_66 ⟨Nat.zero_le _, Nat.zero_le _⟩) hP hD hS hA (fun _ => rfl) (fun r_14 u_12 H locs q_13 hP hD hS => ?_)
              have hP : PP G (xW G a u_12.1 u_12.2.2.2.1 u_12.2.2.2.2.1 u_12.2.2.2.2.2.1 u_12.2.2.2.2.2.2.1 u_12.2.2.2.2.2.2.2.1 u_12.2.2.2.2.2.2.2.2.1 g9 lr u_12.2.2.2.2.2.2.2.2.2 tn ln ((nx + 1) % 6) (min (ct + 1) 6) (va_up hv nx v) v0 k0 v1 k1) H := by rw [xW_y3]; exact hP
              have hD : va_D A (xW G a u_12.1 u_12.2.2.2.1 u_12.2.2.2.2.1 u_12.2.2.2.2.2.1 u_12.2.2.2.2.2.2.1 u_12.2.2.2.2.2.2.2.1 u_12.2.2.2.2.2.2.2.2.1 g9 lr u_12.2.2.2.2.2.2.2.2.2 tn ln ((nx + 1) % 6) (min (ct + 1) 6) (va_up hv nx v) v0 k0 v1 k1) := by rw [xW_y3]; exact hD
              refine topE (v' := nI (exR tn ln i s9)) (q_13.2.2.2.2) ?_
              refine lv_if_ne (tgt := 76) hx hb dX8_runText_69 (by decide) (fun c_15 => ?_) (fun c_15 => ?_)
              · have f_16 : ¬ ((exR tn ln i s9 : Nat) : Int) = (0 : Int) := fun z => c_15 ((c_eq (nI_toInt (n := exR tn ln i s9) (by omega)) rfl).mpr z)
                refine lv_iconst (v := nI (0)) hx hb dX8_runText_76 (by decide) ?_
                refine lv_istore_n (lv' := [(2, .int (nI (0))), (0, .ref (a 0)), (1, .int (nI (dn))), (3, .int (nI (i)))]) hx hb dX8_runText_77 rfl hl (by decide) rfl (fun ls hl => ?_)
                refine lv_iload_n hx hb dX8_runText_78 rfl (lv_at hl 2 rfl) ?_
                refine lv_iload_n hx hb dX8_runText_79 rfl (lv_at hl 0 rfl) ?_
                refine lv_if_eq (tgt := 87) hx hb dX8_runText_80 (by decide) (fun c_17 => ?_) (fun c_17 => ?_)
                · have f_18 : (0 : Int) = (0 : Int) := (c_eq (nI_toInt (n := 0) (by omega)) rfl).mp c_17
                  refine lv_iconst (v := nI (1)) hx hb dX8_runText_87 (by decide) ?_
                  refine gAdd (z := nI (dn + 1)) hx hb dX8_runText_88 (nI_add _ _) ?_
                  refine lv_istore_n (lv' := [(1, .int (nI (dn + 1))), (2, .int (nI (0))), (0, .ref (a 0)), (3, .int (nI (i)))]) hx hb dX8_runText_89 rfl hl (by decide) rfl (fun ls hl => ?_)
                  refine lv_iinc (v := nI (i + 1)) (lv' := [(3, .int (nI (i + 1))), (1, .int (nI (dn + 1))), (2, .int (nI (0))), (0, .ref (a 0))]) hx hb dX8_runText_90 hl (k := 3) rfl (inc_p i 1) (by decide) rfl (fun ls hl => ?_)
                  refine lv_goto (tgt := 38) hx hb dX8_runText_93 (by decide) ?_
                  exact ih_38 (i + 1) (ceP tn ln i + 1) (n - 1) 0 (dn + 1) (exS tn ln i s9) u_12.2.1 u_12.2.2.1 u_12.1 u_12.2.2.2.1 u_12.2.2.2.2.1 u_12.2.2.2.2.2.1 u_12.2.2.2.2.2.2.1 u_12.2.2.2.2.2.2.2.1 u_12.2.2.2.2.2.2.2.2.1 u_12.2.2.2.2.2.2.2.2.2 (by omega) (by omega) (by omega) q_13.1 (MR_ex hM9) q_13.2.1 q_13.2.2.1 q_13.2.2.2.1 (RT_y hok hst (by omega) (by omega) f_11 (by omega)) H locs ls hP hD hS (lv_sub hl [3, 1, 2, 0] ((lvc rfl (lvc (congrArg Value.int (rfl)) (lvc rfl (lvc (congrArg Value.int (rfl)) rfl))))))
                · have f_19 : ¬ (0 : Int) = (0 : Int) := fun z => c_17 ((c_eq (nI_toInt (n := 0) (by omega)) rfl).mpr z)
                  exfalso; omega
              · have f_20 : ((exR tn ln i s9 : Nat) : Int) = (0 : Int) := (c_eq (nI_toInt (n := exR tn ln i s9) (by omega)) rfl).mp c_15
                refine lv_iconst (v := nI (1)) hx hb dX8_runText_72 (by decide) ?_
                refine lv_goto (tgt := 77) hx hb dX8_runText_73 (by decide) ?_
                refine lv_istore_n (lv' := [(2, .int (nI (1))), (0, .ref (a 0)), (1, .int (nI (dn))), (3, .int (nI (i)))]) hx hb dX8_runText_77 rfl hl (by decide) rfl (fun ls hl => ?_)
                refine lv_iload_n hx hb dX8_runText_78 rfl (lv_at hl 2 rfl) ?_
                refine lv_iload_n hx hb dX8_runText_79 rfl (lv_at hl 0 rfl) ?_
                refine lv_if_eq (tgt := 87) hx hb dX8_runText_80 (by decide) (fun c_21 => ?_) (fun c_21 => ?_)
                · have f_22 : (1 : Int) = (0 : Int) := (c_eq (nI_toInt (n := 1) (by omega)) rfl).mp c_21
                  exfalso; omega
                · have f_23 : ¬ (1 : Int) = (0 : Int) := fun z => c_21 ((c_eq (nI_toInt (n := 1) (by omega)) rfl).mpr z)
                  refine lv_iconst (v := nI (0)) hx hb dX8_runText_83 (by decide) ?_
                  refine lv_goto (tgt := 88) hx hb dX8_runText_84 (by decide) ?_
                  refine gAdd (z := nI (dn + 0)) hx hb dX8_runText_88 (nI_add _ _) ?_
                  refine lv_istore_n (lv' := [(1, .int (nI (dn + 0))), (2, .int (nI (1))), (0, .ref (a 0)), (3, .int (nI (i)))]) hx hb dX8_runText_89 rfl hl (by decide) rfl (fun ls hl => ?_)
                  refine lv_iinc (v := nI (i + 1)) (lv' := [(3, .int (nI (i + 1))), (1, .int (nI (dn + 0))), (2, .int (nI (1))), (0, .ref (a 0))]) hx hb dX8_runText_90 hl (k := 3) rfl (inc_p i 1) (by decide) rfl (fun ls hl => ?_)
                  refine lv_goto (tgt := 38) hx hb dX8_runText_93 (by decide) ?_
                  exact ih_38 (i + 1) (c9) (n) 1 (dn + 0) (exS tn ln i s9) u_12.2.1 u_12.2.2.1 u_12.1 u_12.2.2.2.1 u_12.2.2.2.2.1 u_12.2.2.2.2.2.1 u_12.2.2.2.2.2.2.1 u_12.2.2.2.2.2.2.2.1 u_12.2.2.2.2.2.2.2.2.1 u_12.2.2.2.2.2.2.2.2.2 (by omega) (by omega) (by omega) q_13.1 (MR_ex hM9) q_13.2.1 q_13.2.2.1 q_13.2.2.2.1 (RT_n hst (by omega) (by omega) f_11 (by omega)) H locs ls hP hD hS (lv_sub hl [3, 1, 2, 0] ((lvc rfl (lvc (congrArg Value.int (rfl)) (lvc rfl (lvc (congrArg Value.int (rfl)) rfl))))))
    exact L_38 (_ + 1) 0 0 (ln + 1) 0 0 ss k o v mo ki pr df co bi bf (Nat.lt_succ_self _) (by omega) (by omega) hvo hM hKO hmo hdf (RT_0 hok) H locs ls hP hD hS (lv_sub hl [3, 2, 1, 0] (lvc rfl (lvc rfl (lvc rfl (lvc rfl rfl)))))
  · have f_24 : ¬ (-1) = (-1) := fun z => c_1 ((c_eq (iI_toInt (by omega) (by omega)) (iI_toInt (by omega) (by omega))).mpr z)
    exfalso; omega
