theorem va_D_perm {A : Nat → Prop} {w w' : va_W} (hp : w.Perm w') (h : va_D A w) : va_D A w' :=
  va_D_of ((hp.map Prod.fst).nodup_iff.mp (va_D_nodup h)) (fun q hq => by
    obtain ⟨k, hk⟩ := List.mem_iff_getElem?.mp (hp.mem_iff.mpr hq)
    exact h.2 k q hk)
theorem arrT_i {s : State} {A : Array Value} (h : (Cond.arrayClass .int).before A s = true) : ∃ cA, ArrOfT s cA .int ∧ va_RA s cA .int := by
  obtain ⟨c, k, comp, h1, h2, h3⟩ := Cond.arrayClass_spec h
  exact ⟨c, fun n z => ⟨fun k h => (by cases h), k, h2, comp, h3⟩, h1⟩
theorem arrT_z {s : State} {A : Array Value} (h : (Cond.arrayClass .boolean).before A s = true) : ∃ cA, ArrOfT s cA .boolean ∧ va_RA s cA .boolean := by
  obtain ⟨c, k, comp, h1, h2, h3⟩ := Cond.arrayClass_spec h
  exact ⟨c, fun n z => ⟨fun k h => (by cases h), k, h2, comp, h3⟩, h1⟩
theorem arrT_c {s : State} {A : Array Value} (h : (Cond.arrayClass .char).before A s = true) : ∃ cA, ArrOfT s cA .char ∧ va_RA s cA .char := by
  obtain ⟨c, k, comp, h1, h2, h3⟩ := Cond.arrayClass_spec h
  exact ⟨c, fun n z => ⟨fun k h => (by cases h), k, h2, comp, h3⟩, h1⟩
theorem arrT_l {s : State} {A : Array Value} (h : (Cond.arrayClass .long).before A s = true) : ∃ cA, ArrOfT s cA .long ∧ va_RA s cA .long := by
  obtain ⟨c, k, comp, h1, h2, h3⟩ := Cond.arrayClass_spec h
  exact ⟨c, fun n z => ⟨fun k h => (by cases h), k, h2, comp, h3⟩, h1⟩
theorem arrT_o {s : State} {A : Array Value} (h : (Cond.arrayOver (.object RX7)).before A s = true) : ∃ cA, ArrOfT s cA (.object RX7) ∧ va_RA s cA (.object RX7) := by
  obtain ⟨comp, c, k, h1, h2, h3, h4, h5⟩ := Cond.arrayOver_spec h
  exact ⟨c, fun n z => ⟨fun k h => (by cases h), k, h3, comp, h4⟩, k, comp, h3, h4, h1, h5⟩
def strA (s : State) (k : Nat) : Nat := match (Term.string RX8 k).eval #[] s none [] s with
  | some (.ref a) => a
  | _ => 0
theorem str_of {s : State} {A : Array Value} {k : Nat} {tx : String} (h : (Cond.stringRef RX8 k tx).before A s = true) : vk_R RX8 k tx (strA s k) s := by
  have h1 : ∃ a, (Term.string RX8 k).eval #[] s none [] s = some (.ref a) := by
    simp only [Cond.before, Cond.holds, Cond.value] at h
    cases hr : s.resolvedAt? RX8 k with
    | none => cases hc : s.vm.findClass RX8 <;> simp [hr, hc] at h
    | some r =>
      cases hc : s.vm.findClass RX8 with
      | none => simp [hc] at h
      | some cc =>
        cases r with
        | string a =>
          cases hk : s.vm.classes[cc]? with
          | none => simp [State.resolvedAt?, hc, hk] at hr
          | some K =>
            have h9 : K.resolved[k]?.join = some (.string a) := by simpa [State.resolvedAt?, hc, hk] using hr
            exact ⟨a, by simp [Term.eval, State.resolvedAt?, hc, hk, h9]⟩
        | _ => simp [hr, hc] at h
  obtain ⟨a, ha⟩ := h1
  have e : strA s k = a := by unfold strA; rw [ha]
  rw [e]
  exact vk_R.of h ha
set_option maxRecDepth 100000 in
theorem str_in : ∀ q ∈ strL, Cond.stringRef RX8 q.1 q.2 ∈ lw_tbl := by decide +kernel
set_option maxRecDepth 100000 in
theorem nsL_in : ∀ w ∈ nsL, w ∈ lw_tbl := by decide +kernel
theorem nsL_tabs : ∀ w ∈ nsL, w.onTables = true := by decide +kernel
set_option maxRecDepth 100000 in
theorem dxL_in : ∀ w ∈ dxL, w ∈ lw_tbl := by decide +kernel
theorem dxL_tabs : ∀ w ∈ dxL, w.onTables = true := by decide +kernel
theorem nc_in : ∀ q ∈ ncL, Cond.not (.castable q.1 q.2) ∈ flatC (Jvm.Cond.and given_1 narrow_1) := by decide +kernel
theorem sf_in : ∀ j : Nat, j < 25 → Cond.eq (.elem (.static RX3 "SHORT_FIRST" "[I") (.int (Int32.ofNat j))) (.int (shortF j)) ∈ flatC (Jvm.Cond.and given_1 narrow_1) := by decide +kernel
set_option maxHeartbeats 4000000 in
set_option maxRecDepth 100000 in
theorem lw_G {p : Program} {s : State} {m : MethodId} {meth : Method} {c : Code} {b L : Nat} {xs : Nat → Int32} (C0 : lw_At p s m meth c b L xs) : ∃ G : GT, CX G s ∧ CI G s ∧ gB G = s.heap.size := by
  obtain ⟨hx, hb, hr, hml, hown, hts, hX, hbl, hlk, hgv⟩ := C0
  have hs := flat_of_before _ hgv
  have hA : ∀ a : Nat, a < s.heap.size → ¬ s.heap.size ≤ a := fun a h => by omega
  obtain ⟨d0, i0, k0⟩ := u_known (n := 2) hts inX0 (hts (.instantiable RX0 2) (by decide +kernel))
  obtain ⟨d1, i1, k1⟩ := u_known (n := 2) hts inX1 (hts (.instantiable RX1 2) (by decide +kernel))
  obtain ⟨d2, i2, k2⟩ := u_known (n := 3) hts inX2 (hts (.instantiable RX2 3) (by decide +kernel))
  obtain ⟨d3, i3, k3⟩ := u_known (n := 1) hts inX4 (hts (.instantiable RX4 1) (by decide +kernel))
  obtain ⟨d4, i4, k4⟩ := u_known (n := 6) hts inX5 (hts (.instantiable RX5 6) (by decide +kernel))
  obtain ⟨d5, i5, k5⟩ := u_known (n := 2) hts inX6 (hts (.instantiable RX6 2) (by decide +kernel))
  obtain ⟨d6, i6, k6⟩ := u_known (n := 10) hts inX7 (hts (.instantiable RX7 10) (by decide +kernel))
  obtain ⟨d7, i7, k7⟩ := u_known (n := 8) hts inX8 (hts (.instantiable RX8 8) (by decide +kernel))
  obtain ⟨ai, hai⟩ := arrT_i (hts (.arrayClass .int) (by decide +kernel))
  obtain ⟨az, haz⟩ := arrT_z (hts (.arrayClass .boolean) (by decide +kernel))
  obtain ⟨ac, hac⟩ := arrT_c (hts (.arrayClass .char) (by decide +kernel))
  have hAO := hts (.arrayOver (.object RX7)) (by decide +kernel)
  obtain ⟨ao, hao⟩ := arrT_o hAO
  obtain ⟨t, ht, hT⟩ := va_Tof (N := 25) (f := fun j => .int (shortF j)) (A := fun q => s.heap.size ≤ q) (by decide) (hs (.arrayOf (.static RX3 "SHORT_FIRST" "[I") .int) (by decide +kernel)) (va_eqt (z := Int32.ofNat 25) (hs _ (by decide +kernel))) (fun j hj => va_eqt (hs _ (sf_in j hj))) hA
  have hZ := va_Zof (A := fun q => s.heap.size ≤ q) (hts (.laysStatic RX3 "SHORT_FIRST" "[I") (by decide +kernel)) (hts (.initialized RX3) (by decide +kernel)) ht hA
  have hU := vx_Zqof (A := fun q => s.heap.size ≤ q) (hts (.laysStatic Bundle.tN "UNASSIGNED_STACK" Bundle.steD) (by decide +kernel)) (hts (.initialized Bundle.tN) (by decide +kernel)) (hs (.isRef (.static Bundle.tN "UNASSIGNED_STACK" Bundle.steD)) (by decide +kernel)) hA
  have hN := vx_Zqof (A := fun q => s.heap.size ≤ q) (hts (.laysStatic Bundle.tN "SUPPRESSED_SENTINEL" Bundle.listD) (by decide +kernel)) (hts (.initialized Bundle.tN) (by decide +kernel)) (hs (.isRef (.static Bundle.tN "SUPPRESSED_SENTINEL" Bundle.listD)) (by decide +kernel)) hA
  have hC : CT ((fun c => ([d0, d1, d2, d3, d4, d5, d6, d7] : List ClassId).getD c d0, fun c => ([i0, i1, i2, i3, i4, i5, i6, i7] : List (Nat → Nat)).getD c i0), (ai, az, ac, ao, ai), s.heap.size, strA s) s := by
    refine ⟨⟨fun c q hq => ?_, fun k q hq => ?_⟩, fun w hw => va_Nw.of (nsL_tabs w hw) (hts w (nsL_in w hw)), fun q hq => str_of (hts _ (str_in q hq)), Nat.le_refl _, fun q hq => va_Nc.of (hs _ (nc_in q hq)), ⟨hU, hN⟩, t, hZ, hT⟩
    · match c, hq with
      | 0, hq => cases hq; exact k0
      | 1, hq => cases hq; exact k1
      | 2, hq => cases hq; exact k2
      | 3, hq => cases hq; exact k3
      | 4, hq => cases hq; exact k4
      | 5, hq => cases hq; exact k5
      | 6, hq => cases hq; exact k6
      | 7, hq => cases hq; exact k7
      | c + 8, hq => cases hq
    · match k, hq with
      | 0, hq => cases hq; exact hai
      | 1, hq => cases hq; exact haz
      | 2, hq => cases hq; exact hac
      | 3, hq => cases hq; exact hao
      | 4, hq => cases hq; exact hai
      | k + 5, hq => cases hq
  exact ⟨_, ⟨hC, fun w hw => va_Nw.of (dxL_tabs w hw) (hts w (dxL_in w hw))⟩, ⟨hC, va_AO.of hAO⟩, rfl⟩
abbrev V0 : SVT := (fun _ => 0, fun _ => 0, fun _ => 0, fun _ => 0, fun _ => 0, 120, 8, 0, 0, 0)
abbrev J0 : JT := ((fun _ => 0, fun _ => 0, fun _ => 0, fun _ => 0, iI (-1), 0), (fun _ => 0, 0, fun _ => 0), (fun _ => 0, 0), (0, 0, fun _ => V0), (V0, 0, V0, 0))
theorem V0_ok : OKS V0 ∧ PIC V0 ∧ OKJ J0 := by
  have z15 : R15 (fun _ => 0) := fun _ => by show (0 : Int) ≤ 0 ∧ (0 : Int) ≤ 15; omega
  refine ⟨⟨z15, z15, z15, fun _ => Nat.zero_le 2, by show 120 ≤ 300; omega, by show 1 ≤ 8 ∧ 8 ≤ 20; omega⟩, ⟨Nat.le_refl 0, Nat.zero_le _, Nat.le_refl 0, fun z => absurd z (Nat.lt_irrefl 0), fun _ _ _ => rfl⟩, fun _ => by show 0 < 25; omega, fun _ => by show -15 ≤ (0 : Int) ∧ (0 : Int) ≤ 15; omega, by show 0 < 6; omega, Nat.zero_le 6⟩
