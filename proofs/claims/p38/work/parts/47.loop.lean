/-! ===== the law's loop ===== -/
theorem SIM_pic {v w : SVT} (h : SIM v w) (hp : PIC v) : PIC w := by
  obtain ⟨d, t, g, k, m, bu, kd, pi, lo9, bi⟩ := v
  obtain ⟨d', t', g', k', m', bu', kd', pi', lo', bi'⟩ := w
  obtain ⟨e1, e2, e3, e4, e5, e6⟩ := h
  have e2 : t = t' := e2
  have e3 : g = g' := e3
  have e4 : k = k' := e4
  have e6 : (bu, kd, pi, lo9, bi) = (bu', kd', pi', lo', bi') := e6
  subst e2; subst e3; subst e4
  cases e6
  obtain ⟨p1, p2, p3, p4, p5⟩ := hp
  refine ⟨p1, p2, p3, fun z b hb => ⟨fun y => ?_, fun y => ?_⟩, p5⟩
  · have y : k b = 1 := y
    have f := e5 b (show ¬ k b = 0 by omega)
    exact f.symm.trans ((p4 z b hb).1 y)
  · have y : k b = 2 := y
    have f := e5 b (show ¬ k b = 0 by omega)
    have f2 : m b = m' b := f
    have f3 : m b < 25 := (p4 z b hb).2 y
    show m' b < 25
    omega
/-- what holds at the loop's head -/
def INV (G : GT) (a b : Nat → Nat) (oa bq : Nat) (s : State) (e : Nat) (H : Heap) (locs : List Loc) (ls : Array Slot) : Prop :=
  ∃ (vo vp : SVT) (jo jp : JT) (of : Nat → Int32), PP G (oW G a vo jo ++ (oW G b vp jp ++ ouW G oa of)) H ∧ va_D (lo G) (oW G a vo jo ++ (oW G b vp jp ++ ouW G oa of)) ∧ va_S (lo G) s.heap H locs ∧ lv_has ls 10 [(0, .ref bq), (1, .ref (a 0)), (2, .ref (b 0)), (3, .ref oa), (4, .int (nI e))] ∧ OKS vo ∧ PIC vo ∧ OKS vp ∧ SIM vo vp ∧ sPi vo ≤ e ∧ OKJ jo ∧ OKJ jp
set_option maxHeartbeats 4000000 in
set_option maxRecDepth 100000 in
theorem lw_step {pg : Program} {l : Launch} {ev : Env} {s : State} {m : MethodId} {below : List Frame} {meth : Method} {c : Code} {Q : State → Prop} {G : GT} {bq L : Nat} {xs : Nat → Int32} (hLK : LK pg l s m meth c bq L xs G) (c0 s0 : Nat) (hroom : c0 + 4 ≤ 600104 ∧ s0 + 24 ≤ 7301314) {a b : Nat → Nat} {oa : Nat} (e : Nat) (he : e < 52) {H : Heap} {locs : List Loc} {ls : Array Slot} (hI : INV G a b oa bq s e H locs ls)
    (hk : ∀ (H : Heap) (locs : List Loc) (ls : Array Slot), INV G a b oa bq s (e + 1) H locs ls → W pg l ev room_1 s m #[Value.ref bq] below meth c H locs (c0 + 4) (s0 + 24) Q (F0 m 23 ls [])) :
    W pg l ev room_1 s m #[Value.ref bq] below meth c H locs c0 s0 Q (F0 m 30 ls []) := by
  obtain ⟨vo, vp, jo, jp, of, hP, hD, hS, hl, hv, hpc, hw, hs, hpi, hjo, hjp⟩ := hI
  have hLK0 := hLK
  obtain ⟨hx, hb, -⟩ := hLK0
  refine sg_a hLK c0 s0 ⟨by omega, by omega⟩ e he (clI L xs e) rfl (chT_le _ _ _ _) hv hpc hw hs hpi hjo hjp H locs ls hP hD hS hl (fun vo1 jo1 jp1 of1 tl hv1 hpc1 hpi1 hjo1 hjp1 hR H locs ls hP hD hS hl => ?_)
  generalize clI L xs e = x0 at hR hl ⊢
  have hpw := SIM_pic hs hpc
  have epi := (SIM_b hs).2.1
  refine sg_b hLK (c0 + 2) (s0 + 12) ⟨by omega, by omega⟩ e he x0 tl hv1 hpc1 hw hpi1 (by omega) hjo1 hjp1 (chT_le _ _ _ _) (fun u hu => ?_) H locs ls hP hD hS hl (fun vp1 jo2 jp2 of2 hw1 hs1 hjo2 hjp2 H locs ls hP hD hS hl => ?_)
  · by_cases h0 : chT (acA x0).1 (acA x0).2.1 (acA x0).2.2.1 (acA x0).2.2.2 = 0
    · obtain ⟨mo, hmo, hu1, hj1, hjh, hof⟩ := hu.1 h0
      obtain ⟨mo0, e1, e2⟩ := hR.1 h0
      have hS3 := SIM_ch (mo := mo0) (mo' := mo) (x := (acA x0).2.1) (y := (acA x0).2.2.1) (z := (acA x0).2.2.2) hs (acA_5 x0)
      have hO := chV_ok (mo := mo) hw hpw (acA_3 x0) h0 (acA_5 x0)
      refine ⟨by rw [hu1]; exact hO.1, by rw [hu1, e1]; exact hS3.1, hpi1, hj1, fun _ => ?_⟩
      rw [hof, e2]; exact hS3.2.symm
    · have e1 := hu.2 h0
      have e2 := hR.2 h0
      rw [e1]
      exact ⟨hw, by rw [e2]; exact hs, hpi1, hjp1, fun z => absurd z h0⟩
  refine sg_c hLK (c0 + 3) (s0 + 18) ⟨by omega, by omega⟩ e he x0 hv1 hpc1 hw1 hs1 hpi1 hjo2 hjp2 H locs ls hP hD hS hl (fun jo3 hjo3 H locs ls hP hD hS hl => ?_)
  refine sg_d hLK (c0 + 3 + 0) (s0 + 18 + 0) ⟨by omega, by omega⟩ e he x0 hv1 hpc1 hw1 hs1 hpi1 hjo3 hjp2 H locs ls hP hD hS hl (fun jo4 of4 hjo4 H locs ls hP hD hS hl => ?_)
  refine sg_e hLK (c0 + 3 + 0 + 1) (s0 + 18 + 0 + 6) ⟨by omega, by omega⟩ e he hv1 hpc1 hw1 hs1 hpi1 hjo4 hjp2 H locs ls hP hD hS hl (fun jo5 jp5 hjo5 hjp5 H locs ls hP hD hS hl => ?_)
  refine lv_iinc (v := nI (e + 1)) (lv' := [(4, .int (nI (e + 1))), (0, .ref bq), (1, .ref (a 0)), (2, .ref (b 0)), (3, .ref oa)]) hx hb dL_law_256 hl (k := 4) rfl (inc_p e 1) (by decide) rfl (fun ls hl => ?_)
  refine lv_goto (tgt := 23) hx hb dL_law_259 (by decide) ?_
  exact hk H locs ls ⟨vo1, vp1, jo5, jp5, of4, hP, hD, hS, lv_sub hl [1, 2, 3, 4, 0] rfl, hv1, hpc1, hw1, hs1, hpi1, hjo5, hjp5⟩
theorem lw_loop {pg : Program} {l : Launch} {ev : Env} {s : State} {m : MethodId} {below : List Frame} {meth : Method} {c : Code} {Q : State → Prop} {G : GT} {bq L : Nat} {xs : Nat → Int32} (hLK : LK pg l s m meth c bq L xs G) {a b : Nat → Nat} {oa : Nat}
    (hend : ∀ (vo vp : SVT) (jo jp : JT) (of : Nat → Int32) (e : Nat) (H : Heap) (locs : List Loc) (ls : Array Slot), PP G (oW G a vo jo ++ (oW G b vp jp ++ ouW G oa of)) H → va_D (lo G) (oW G a vo jo ++ (oW G b vp jp ++ ouW G oa of)) → va_S (lo G) s.heap H locs → lv_has ls 10 [(0, .ref bq), (1, .ref (a 0)), (2, .ref (b 0)), (3, .ref oa), (4, .int (nI e))] → OKS vo → PIC vo → sPi vo ≤ 999 → W pg l ev room_1 s m #[Value.ref bq] below meth c H locs 600104 7301314 Q (F0 m 262 ls [])) :
    ∀ (n e c0 s0 : Nat) (H : Heap) (locs : List Loc) (ls : Array Slot), e + n = 52 → c0 + 4 * n ≤ 600104 → s0 + 24 * n ≤ 7301314 → INV G a b oa bq s e H locs ls → W pg l ev room_1 s m #[Value.ref bq] below meth c H locs c0 s0 Q (F0 m 23 ls []) := by
  intro n
  have hLK0 := hLK
  obtain ⟨hx, hb, -⟩ := hLK0
  induction n with
  | zero =>
    intro e c0 s0 H locs ls hn hc hs hI
    obtain ⟨vo, vp, jo, jp, of, hP, hD, hS, hl, hv, hpc, hw, hsm, hpi, hjo, hjp⟩ := hI
    have e52 : e = 52 := by omega
    subst e52
    refine lv_iload hx hb dL_law_23 (lv_at hl 4 rfl) ?_
    refine lv_bipush (v := nI 52) hx hb dL_law_25 (by decide) ?_
    refine lv_icmp_ge (tgt := 262) hx hb dL_law_27 (by decide) (fun _ => ?_) (fun z => absurd (Int32.le_refl _) z)
    exact W.widen (k := 600104) (n := 7301314) (by omega) (by omega) (hend vo vp jo jp of 52 H locs ls hP hD hS hl hv hpc (by omega))
  | succ n ih =>
    intro e c0 s0 H locs ls hn hc hs hI
    have hI0 := hI
    obtain ⟨vo, vp, jo, jp, of, hP, hD, hS, hl, hv, hpc, hw, hsm, hpi, hjo, hjp⟩ := hI0
    refine lv_iload hx hb dL_law_23 (lv_at hl 4 rfl) ?_
    refine lv_bipush (v := nI 52) hx hb dL_law_25 (by decide) ?_
    refine lv_icmp_ge (tgt := 262) hx hb dL_law_27 (by decide) (fun z => ?_) (fun _ => ?_)
    · have f : (52 : Int) ≤ (e : Int) := (c_le (nI_toInt (n := 52) (by omega)) (nI_toInt (n := e) (by omega))).mp z
      omega
    · refine lw_step hLK c0 s0 ⟨by omega, by omega⟩ e (by omega) ⟨vo, vp, jo, jp, of, hP, hD, hS, hl, hv, hpc, hw, hsm, hpi, hjo, hjp⟩ (fun H locs ls hI => ?_)
      exact ih (e + 1) (c0 + 4) (s0 + 24) H locs ls (by omega) (by omega) (by omega) hI
