/-! ===== methods that throw: nothing that was there is changed ===== -/
abbrev qF : Array Value → State → Outcome → State → Prop := fun _ _ _ _ => False
abbrev qE (E : String) : String → State → State → Prop := vx_X (fun (_ : Unit) => True) (fun E' _ _ => E' = E) noF
abbrev xNm : List String := ["java/lang/RuntimeException", "java/lang/Exception"]
/-- what throwing asks besides -/
def dxL : List Cond := [.declares (Bundle.initS "java/lang/RuntimeException"), .declares (Bundle.initS "java/lang/Exception"), .declares (Bundle.initS Bundle.tN)]
theorem dx_warm {w : Cond} (hw : w ∈ dxL) {s U : State} (hW : s.WarmedH U.vm) (h : va_Nw w s) : va_Nw w U := by
  simp only [dxL, List.mem_cons, List.not_mem_nil, or_false] at hw
  rcases hw with rfl | rfl | rfl <;> exact va_tabs rfl (rfl : (s.setVm U.vm).vm = U.vm) (by rw [Cond.declares_setVm hW.alike]; exact h)
theorem dx_same {w : Cond} (hw : w ∈ dxL) {u U : State} (hv : u.vm = U.vm) (h : va_Nw w u) : va_Nw w U := by
  simp only [dxL, List.mem_cons, List.not_mem_nil, or_false] at hw
  rcases hw with rfl | rfl | rfl <;> exact va_Nw.same rfl hv h
def CX (G : GT) (U : State) : Prop := CT G U ∧ ∀ w ∈ dxL, va_Nw w U
def pcX (G : GT) (av : List Value) (H0 : Heap) : Array Value → State → Prop := va_Pc av (fun U => U.heap = H0 ∧ CX G U)
theorem pcX_blind (G : GT) (av : List Value) (H0 : Heap) : FrameBlind (pcX G av H0) := fun a U g mk q => ⟨q.1, q.2.1, q.2.2.1.blind g mk a, fun w hw => dx_same (u := U) (U := U.calling g mk a) hw rfl (q.2.2.2 w hw)⟩
theorem CX.at {G : GT} {s U : State} {A : Nat → Prop} {H : Heap} {locs : List Loc} (h : CX G s) (hS : va_S A s.heap H locs) (hA : ∀ q, A q → lo G q) (hU : U.heap = H) (hW : s.WarmedH U.vm) : CX G U := ⟨h.1.at hS hA hU hW, fun w hw => dx_warm hw hW (h.2 w hw)⟩
theorem preSX {G : GT} {s : State} {A : Nat → Prop} {H : Heap} {locs : List Loc} {As : List Value} (h : CX G s) (hS : va_S A s.heap H locs) (hA : ∀ q, A q → lo G q) : PreS s H (pcX G As H) As :=
  ⟨pcX_blind G As H, fun U hU hW => ⟨rfl, hU, h.at hS hA hU hW⟩⟩
theorem preVX {G : GT} {s : State} {A : Nat → Prop} {H : Heap} {locs : List Loc} {As : List Value} {b q0 ci : Nat} {r : vw_C} {fs : List Value} {ws : va_W} (h : CX G s) (hS : va_S A s.heap H locs) (hA : ∀ q, A q → lo G q) (hP : PP G ws H) (hc : vwCl[ci]? = some r) (he : ws[q0]? = some (b, .inr (ci, fs))) : PreV s H r.1 b (pcX G (.ref b :: As) H) As :=
  ⟨pcX_blind G (.ref b :: As) H, va_recv h.1.K hP hc he, fun U hU hW => ⟨rfl, hU, h.at hS hA hU hW⟩⟩
theorem enterX {G : GT} {l : Launch} {y : MethodName} {ws ws' : List Cond} {rm : Room} {as : List Value} {H0 : Heap} {XC : String → State → State → Prop} {Qc : Array Value → State → Outcome → State → Prop} {mc ms : Nat} {free : Addr → Prop} {cc : ByteArray} {maxL : Nat} {ret : Option FieldType} {own : String} {lv : List (Nat × Value)}
    (hy : plainName y.cls = true) (hw : ws = Cond.code y cc maxL ret :: ws') (ho : y.cls = own) (hlv : lv_args 0 as = lv) (hn : (lg_sl as).length ≤ maxL)
    (body : ∀ (p : Program) (e : Env) (s : State) (m : MethodId) (below : List Frame) (meth : Method) (c : Code), p.tables.exec = Jvm.exec → c.code = cc → (∀ x ∈ c.exceptionTable.toList, False) → (∀ w ∈ ws, w.before as.toArray s = true) → s.vm.findClass own = some m.cls → meth.locks = false → c.maxLocals = maxL → s.heap = H0 → CX G s → ∀ ls : Array Slot, lv_has ls maxL lv → W p l e rm s m as.toArray below meth c s.heap [] 0 0 (vx_MQ below Qc XC as.toArray s mc ms free) (F0 m 0 ls [])) : vx_Met l y ws rm (pcX G as H0) Qc XC mc ms free := by
  refine vx_ofW (cc := cc) (maxL := maxL) (ret := ret) hy hw ?_
  intro p e s m args below meth c s₁ B hml ht hv
  obtain ⟨rfl, hH, hC⟩ := hv
  subst ho
  have hl := lv_entry as hn
  rw [hlv] at hl
  rw [lg_entry_eq]
  exact body p e s m below meth c B.exec B.bytes ht (atoms_spec (ws := ws) B.pre) (findClass_of_methodNamed B.named) B.notSynchronized hml hH hC _ hl
/-- a method with a table of its own, that returns -/
theorem metWH {l : Launch} {y : MethodName} {ws ws' : List Cond} {rm : Room} {Pc : Array Value → State → Prop} {Qc : Array Value → State → Outcome → State → Prop} {mc ms : Nat} {free : Addr → Prop} {cc : ByteArray} {maxL : Nat} {ret : Option FieldType} {hh : List (Nat × Nat × Nat × Nat)}
    (hy : plainName y.cls = true) (hw : ws = Cond.codeWith y cc maxL ret hh :: ws')
    (body : ∀ p e s m args below meth c s₁, BodyLoose p l y (headSpec ws rm) cc maxL ret e s m args below meth c s₁ → c.maxLocals = maxL → Pc args s →
      W p l e (headSpec ws rm).room s m args below meth c s.heap [] 0 0 (MQ below Qc args s mc ms free) (entryFrame m args maxL)) : Met l y ws rm Pc Qc mc ms free := by
  refine MetFree.of_bodyS (code := cc) (maxLocals := maxL) (ret := ret) hy ?_ ?_
  · intro args s m h hn
    obtain ⟨m9, meth, c, hn9, h1, h2, h3, h4, -, h5, h6, -⟩ := Cond.codeWith_spec (atoms_spec (ws := ws) h _ (by rw [hw]; exact List.mem_cons_self))
    cases hn.symm.trans hn9
    exact ⟨meth, c, h1, h2, h3, h4, h5, h6⟩
  · intro p e s m args below meth c s₁ B hml hP _
    have hh0 : s₁.heap = s.heap := by rw [B.state]; rfl
    obtain ⟨t, a1, o, b1, b2, b3⟩ := body p e s m args below meth c s₁ B hml hP s₁ hh0 (Stand.of_body B)
    exact ⟨t, o, a1, b1, b2, ⟨b3.1, b3.2⟩⟩
theorem enterH {G : GT} {l : Launch} {y : MethodName} {ws ws' : List Cond} {rm : Room} {as : List Value} {H0 : Heap} {Qc : Array Value → State → Outcome → State → Prop} {mc ms : Nat} {free : Addr → Prop} {cc : ByteArray} {maxL : Nat} {ret : Option FieldType} {hh : List (Nat × Nat × Nat × Nat)} {own : String} {lv : List (Nat × Value)}
    (hy : plainName y.cls = true) (hw : ws = Cond.codeWith y cc maxL ret hh :: ws') (ho : y.cls = own) (hlv : lv_args 0 as = lv) (hn : (lg_sl as).length ≤ maxL)
    (body : ∀ (p : Program) (e : Env) (s : State) (m : MethodId) (below : List Frame) (meth : Method) (c : Code), p.tables.exec = Jvm.exec → c.code = cc → meth.sig.returnType = ret → (∀ w ∈ ws, w.before as.toArray s = true) → s.vm.findClass own = some m.cls → meth.locks = false → c.maxLocals = maxL → c.exceptionTable.toList = tableOf hh → s.heap = H0 → CT G s → ∀ ls : Array Slot, lv_has ls maxL lv → W p l e rm s m as.toArray below meth c s.heap [] 0 0 (MQ below Qc as.toArray s mc ms free) (F0 m 0 ls [])) : Met l y ws rm (pcG G as H0) Qc mc ms free := by
  refine metWH (cc := cc) (maxL := maxL) (ret := ret) (hh := hh) hy hw ?_
  intro p e s m args below meth c s₁ B hml hv
  obtain ⟨rfl, hH, hC⟩ := hv
  subst ho
  have hl := lv_entry as hn
  rw [hlv] at hl
  rw [lg_entry_eq]
  have hts := atoms_spec (ws := ws) B.pre
  exact body p e s m below meth c B.exec B.bytes B.returns hts (findClass_of_methodNamed B.named) B.notSynchronized hml (vx_table (x := y) B (hts _ (by rw [hw]; exact List.mem_cons_self))) hH hC _ hl
theorem enterHX {G : GT} {l : Launch} {y : MethodName} {ws ws' : List Cond} {rm : Room} {as : List Value} {H0 : Heap} {Qc : Array Value → State → Outcome → State → Prop} {mc ms : Nat} {free : Addr → Prop} {cc : ByteArray} {maxL : Nat} {ret : Option FieldType} {hh : List (Nat × Nat × Nat × Nat)} {own : String} {lv : List (Nat × Value)}
    (hy : plainName y.cls = true) (hw : ws = Cond.codeWith y cc maxL ret hh :: ws') (ho : y.cls = own) (hlv : lv_args 0 as = lv) (hn : (lg_sl as).length ≤ maxL)
    (body : ∀ (p : Program) (e : Env) (s : State) (m : MethodId) (below : List Frame) (meth : Method) (c : Code), p.tables.exec = Jvm.exec → c.code = cc → meth.sig.returnType = ret → (∀ w ∈ ws, w.before as.toArray s = true) → s.vm.findClass own = some m.cls → meth.locks = false → c.maxLocals = maxL → c.exceptionTable.toList = tableOf hh → s.heap = H0 → CX G s → ∀ ls : Array Slot, lv_has ls maxL lv → W p l e rm s m as.toArray below meth c s.heap [] 0 0 (MQ below Qc as.toArray s mc ms free) (F0 m 0 ls [])) : Met l y ws rm (pcX G as H0) Qc mc ms free := by
  refine metWH (cc := cc) (maxL := maxL) (ret := ret) (hh := hh) hy hw ?_
  intro p e s m args below meth c s₁ B hml hv
  obtain ⟨rfl, hH, hC⟩ := hv
  subst ho
  have hl := lv_entry as hn
  rw [hlv] at hl
  rw [lg_entry_eq]
  have hts := atoms_spec (ws := ws) B.pre
  exact body p e s m below meth c B.exec B.bytes B.returns hts (findClass_of_methodNamed B.named) B.notSynchronized hml (vx_table (x := y) B (hts _ (by rw [hw]; exact List.mem_cons_self))) hH hC _ hl
section MYX
variable {p : Program} {l : Launch} {e : Env} {R : Room} {s : State} {m : MethodId} {args : Array Value} {below : List Frame} {meth : Method} {c : Code} {H : Heap} {locs : List Loc} {cells slots : Nat} {Q : State → Prop}
variable {cc : ByteArray} {pc : Nat} {ls : Array Slot} {rest st0 : List Value} {a : Array Value} {A0 A1 : Nat → Prop} {H0 : Heap} {mc ms : Nat} {G : GT}
/-- a call that throws, and that isn't caught -/
theorem tOut {E : String} (hr : vx_Run p l e R s m args below meth c s.heap locs 0 0 1 6 (F0 m pc ls st0) rest (qF a) (qE E) noF) (hS : va_S noF s.heap s.heap locs) (hT : ∀ x ∈ c.exceptionTable.toList, False) (hlocks : meth.locks = false) :
    W p l e R s m args below meth c s.heap locs 0 0 (vx_MQ below qF (qE E) args s 1 6 noF) (F0 m pc ls st0) := by
  intro T hTT X
  rcases hr T hTT X with ⟨v, st₀, t, T', L, h0, X', hL, e1, e2, hq, st⟩ | ⟨q, st₀, t, T', L, E', ce, h0, X', hL, e1, e2, ⟨u, hp, hb, hF⟩, hce, hcv, hcl, st⟩
  · exact hq.elim
  · obtain ⟨k1, k2, k3⟩ := vx_keep h0 e1 hS (fun _ _ h => h) (fun _ h => h) hL hF
    have hb' : E' = E := hb
    subst hb'
    have hce' : T'.heap[q]? = some ce := by rw [e1]; exact hce
    obtain ⟨t2, a1, b1⟩ := vx_out (p := p) (l := l) (e := e) (R := R) (args := args) (below := below) (m := m) (locs := locs ++ L) (cells := 0 + 1) (slots := 0 + 6) (pc := pc) (ls := ls) (rest := rest) (mc := 1) (ms := 6) (free := noF) (Qc := qF) (XC := qE E') (fun x hx => (hT x hx).elim) hlocks hce' hcv hcl
      (fun t9 h9 _ => ⟨(), trivial, rfl, by rw [h9]; exact k3.1, fun z h1 h2 => by rw [h9]; exact k3.2.1 z h1 h2⟩) (fun z hz => k3.2.2 z hz) (Nat.le_refl 1) (Nat.le_refl 6) T' rfl X'
    exact ⟨t2, st.trans a1, b1⟩
/-- a call that throws, and that is caught by a row of this method's table -/
theorem tCatch {E own name : String} {ws : va_W} {hh : List (Nat × Nat × Nat × Nat)} (hr : vx_Run p l e R s m args below meth c H locs cells slots 1 6 (F0 m pc ls st0) rest (qF a) (qE E) noF) (hP : PP G ws H) (hS : va_S A0 s.heap H locs)
    (hown : s.vm.findClass own = some m.cls) (htab : c.exceptionTable.toList = tableOf hh) (pre : List ExceptionTableEntry) (x : ExceptionTableEntry) (suf : List ExceptionTableEntry) (hsplit : tableOf hh = pre ++ x :: suf)
    (hpass : ∀ z ∈ pre, covers z pc = false ∨ (z.catchType ≠ 0 ∧ ∃ nm : String, (Cond.classLink own z.catchType nm).before args s = true ∧ va_Nc E nm s)) (hx : covers x pc = true) (h0 : x.catchType ≠ 0)
    (hlink : (Cond.classLink own x.catchType name).before args s = true) (hcast : va_Nw (.castable E name) s)
    (kk : ∀ (q : Nat) (H1 : Heap) (locs1 : List Loc), PP G ws H1 → va_S A0 s.heap H1 locs1 → W p l e R s m args below meth c H1 locs1 (cells + 1) (slots + 6) Q (F0 m x.handlerPc ls [.ref q])) : W p l e R s m args below meth c H locs cells slots Q (F0 m pc ls st0) := by
  intro T hTT X
  rcases hr T hTT X with ⟨v, st₀, t, T', L, h0', X', hL, e1, e2, hq, st⟩ | ⟨q, st₀, t, T', L, E', ce, h0', X', hL, e1, e2, ⟨u, hp, hb, hF⟩, hce, hcv, hcl, st⟩
  · exact hq.elim
  · obtain ⟨k1, k2, k3⟩ := vx_keep h0' e1 hS (fun _ _ h => h.elim) (fun _ h => h.elim) hL hF
    have hb' : E' = E := hb
    subst hb'
    have hce' : T'.heap[q]? = some ce := by rw [e1]; exact hce
    have hP1 : PP G ws T'.heap := va_P_mem.mpr fun z hz => (va_P_mem.mp hP z hz).kept (k2 z.1 (va_P_mem.mp hP z hz).lt (fun h => h))
    obtain ⟨t2, a1, b1⟩ := vx_catch (p := p) (l := l) (e := e) (R := R) (args := args) (below := below) (m := m) (locs := locs ++ L) (cells := cells + 1) (slots := slots + 6) (rest := rest) (Q := Q) hown pre x suf (htab.trans hsplit) hpass hx h0 hlink (va_Nw.use rfl hcast) hce' hcv hcl (kk q T'.heap (locs ++ L) hP1 k3) T' rfl X'
    exact ⟨t2, st.trans a1, b1⟩
/-- the class's own throw -/
theorem tThrow {ws : List Cond} {cls text : String} {ik is ic si n : Nat} {lv : List (Nat × Value)} (hfl : l.stackTraces = false) (hx : p.tables.exec = Jvm.exec) (hb : c.code = cc) (hown : s.vm.findClass RX8 = some m.cls) (hCX : CX G s) (hS : va_S noF s.heap s.heap locs) (hl : lv_has ls n lv) (hml : c.maxLocals = n) (hT : ∀ x ∈ c.exceptionTable.toList, False) (hlocks : meth.locks = false)
    (hts : ∀ w ∈ ws, w.before args s = true) (hk : Cond.classLink RX8 ik cls ∈ ws) (hi : Cond.initialized cls ∈ ws) (hg : ∀ w ∈ (vx_atS RX8 ic cls xNm).filter goodWord, w ∈ ws)
    (hfit : Bundle.fit cls = true ∧ ∀ n ∈ xNm, Bundle.fit n = true) (hng : ∀ w ∈ (vx_atS RX8 ic cls xNm).filter (fun w => !goodWord w), w ∈ nsL ++ dxL ∧ w.onTables = true) (hot : ∀ w ∈ Cond.classLink RX8 ik cls :: Cond.initialized cls :: vx_atS RX8 ic cls xNm, vx_ot w = true) (hs : strL[si]? = some (is, text))
    (d0 : decode cc pc = .ok (.new ik, 3)) (d3 : decode cc (pc + 3) = .ok (.dup, 1)) (d4 : decode cc (pc + 4) = .ok (.ldc is, 2)) (d6 : decode cc (pc + 6) = .ok (.invokespecial ic, 3)) (d9 : decode cc (pc + 9) = .ok (.athrow, 1)) (hR : 6 ≤ R.frames ∧ 82 ≤ R.locals ∧ 1 ≤ R.cells ∧ 6 ≤ R.slots) :
    W p l e R s m args below meth c s.heap locs 0 0 (vx_MQ below qF (qE cls) args s 1 6 noF) (F0 m pc ls []) := by
  have hC := hCX.1
  refine vx_throwS (own := RX8) (cls := cls) (text := text) (names := xNm) (ik := ik) (is := is) (ic := ic) (sa := gS G is) (A := noF) hx hb hfl hown hfit.1 hfit.2 (hts _ hk) (hts _ hi) (hC.str si hs) ?_ hot (hC.zU.narrow (fun _ h => h.elim)) (hC.zN.narrow (fun _ h => h.elim)) hS (hl.1.trans hml.symm) d0 d3 d4 d6 d9 (fun x hx => (hT x hx).elim) ?_ ?_ ?_ ?_ hlocks ?_ (fun z hz => hS.2.2 z hz) (Nat.le_refl 1) (Nat.le_refl 6)
  · exact vx_hat (B := (nsL ++ dxL).filter (fun w => w.onTables)) (fun w hw => hts w (hg w hw)) (fun w hw => List.mem_filter.mpr (hng w hw)) (fun w hw => va_Nw.use (List.mem_filter.mp hw).2 ((List.mem_append.mp (List.mem_filter.mp hw).1).elim (fun h => hC.2.1 w h) (fun h => hCX.2 w h)))
  · show 2 + 3 < R.frames; omega
  · show 0 + (13 * 3 + 43) ≤ R.locals; omega
  · omega
  · omega
  · intro t hal hz hk
    exact ⟨(), trivial, rfl, hz, fun z h1 _ => hk z h1⟩
end MYX
/-- the three of them -/
theorem fitI : Bundle.fit "java/lang/IndexOutOfBoundsException" = true ∧ ∀ n ∈ xNm, Bundle.fit n = true := by decide +kernel
theorem fitA : Bundle.fit "java/lang/IllegalArgumentException" = true ∧ ∀ n ∈ xNm, Bundle.fit n = true := by decide +kernel
theorem fitS : Bundle.fit "java/lang/IllegalStateException" = true ∧ ∀ n ∈ xNm, Bundle.fit n = true := by decide +kernel
theorem ngI : ∀ w ∈ (vx_atS RX8 131 "java/lang/IndexOutOfBoundsException" xNm).filter (fun w => !goodWord w), w ∈ nsL ++ dxL ∧ w.onTables = true := by decide +kernel
theorem ngA : ∀ w ∈ (vx_atS RX8 198 "java/lang/IllegalArgumentException" xNm).filter (fun w => !goodWord w), w ∈ nsL ++ dxL ∧ w.onTables = true := by decide +kernel
theorem ngS : ∀ w ∈ (vx_atS RX8 95 "java/lang/IllegalStateException" xNm).filter (fun w => !goodWord w), w ∈ nsL ++ dxL ∧ w.onTables = true := by decide +kernel
theorem otI : ∀ w ∈ Cond.classLink RX8 127 "java/lang/IndexOutOfBoundsException" :: Cond.initialized "java/lang/IndexOutOfBoundsException" :: vx_atS RX8 131 "java/lang/IndexOutOfBoundsException" xNm, vx_ot w = true := by decide +kernel
theorem otA : ∀ w ∈ Cond.classLink RX8 194 "java/lang/IllegalArgumentException" :: Cond.initialized "java/lang/IllegalArgumentException" :: vx_atS RX8 198 "java/lang/IllegalArgumentException" xNm, vx_ot w = true := by decide +kernel
theorem otS : ∀ w ∈ Cond.classLink RX8 91 "java/lang/IllegalStateException" :: Cond.initialized "java/lang/IllegalStateException" :: vx_atS RX8 95 "java/lang/IllegalStateException" xNm, vx_ot w = true := by decide +kernel
