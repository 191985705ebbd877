
/-! ===== the base of this claim: one context for every method, calls, ends, numbers ===== -/
def nsL : List Cond := [.methodLinkNest "MotionPost" 11 ⟨"MotionPost$State", "<init>", "()V"⟩ "MotionPost",
  .methodLinkNest "MotionPost$State" 11 ⟨"MotionPost$Picture", "<init>", "()V"⟩ "MotionPost",
  .fieldLinkNest "MotionPost" 73 "MotionPost$State" "drawn" "LMotionPost$Picture;" "MotionPost",
  .fieldLinkNest "MotionPost$Moves" 20 "MotionPost$State" "drawn" "LMotionPost$Picture;" "MotionPost",
  .fieldLinkNest "MotionPost$Plan" 82 "MotionPost$State" "drawn" "LMotionPost$Picture;" "MotionPost",
  .fieldLinkNest "MotionPost$Moves" 31 "MotionPost$State" "sent" "LMotionPost$Picture;" "MotionPost",
  .fieldLinkNest "MotionPost$Plan" 65 "MotionPost$State" "sent" "LMotionPost$Picture;" "MotionPost",
  .fieldLinkNest "MotionPost" 113 "MotionPost$State" "sent" "LMotionPost$Picture;" "MotionPost",
  .fieldLinkNest "MotionPost" 116 "MotionPost$State" "received" "LMotionPost$Picture;" "MotionPost",
  .fieldLinkNest "MotionPost" 183 "MotionPost$State" "kinds" "[I" "MotionPost",
  .fieldLinkNest "MotionPost" 187 "MotionPost$State" "moves" "[I" "MotionPost",
  .fieldLinkNest "MotionPost$Plan" 58 "MotionPost$State" "budget" "I" "MotionPost",
  .fieldLinkNest "MotionPost" 102 "MotionPost$State" "budget" "I" "MotionPost",
  .fieldLinkNest "MotionPost" 106 "MotionPost$State" "keyDistance" "I" "MotionPost",
  .fieldLinkNest "MotionPost" 174 "MotionPost$State" "pictures" "I" "MotionPost",
  .fieldLinkNest "MotionPost" 177 "MotionPost$State" "lostPictures" "I" "MotionPost",
  .fieldLinkNest "MotionPost" 180 "MotionPost$State" "sentBits" "I" "MotionPost",
  .methodLinkNest "MotionPost" 18 ⟨"MotionPost$Plan", "<init>", "()V"⟩ "MotionPost",
  .methodLinkNest "MotionPost$Plan" 20 ⟨"MotionPost$Picture", "<init>", "()V"⟩ "MotionPost",
  .fieldLinkNest "MotionPost" 271 "MotionPost$Plan" "predicted" "LMotionPost$Picture;" "MotionPost",
  .fieldLinkNest "MotionPost" 168 "MotionPost$Plan" "coarseness" "I" "MotionPost",
  .fieldLinkNest "MotionPost" 171 "MotionPost$Plan" "bits" "I" "MotionPost",
  .methodLinkNest "MotionPost" 25 ⟨"MotionPost$BitRow", "<init>", "()V"⟩ "MotionPost",
  .methodLinkNest "MotionPost" 32 ⟨"MotionPost$Picture", "<init>", "()V"⟩ "MotionPost",
  .methodLinkNest "MotionPost" 39 ⟨"MotionPost$CommandText", "<init>", "()V"⟩ "MotionPost",
  .methodLinkNest "MotionPost" 11 ⟨"MotionPost$State", "<init>", "()V"⟩ "MotionPost",
  .methodLinkNest "MotionPost" 46 ⟨"MotionPost$History", "<init>", "()V"⟩ "MotionPost",
  .methodLinkNest "MotionPost$History" 24 ⟨"MotionPost$State", "<init>", "()V"⟩ "MotionPost",
  .fieldLinkNest "MotionPost" 221 "MotionPost$History" "count" "I" "MotionPost",
  .methodLinkNest "MotionPost" 53 ⟨"MotionPost$Slot", "<init>", "()V"⟩ "MotionPost",
  .methodLinkNest "MotionPost$Slot" 9 ⟨"MotionPost$State", "<init>", "()V"⟩ "MotionPost",
  .methodLinkNest "MotionPost" 11 ⟨"MotionPost$State", "<init>", "()V"⟩ "MotionPost",
  .methodLinkNest "MotionPost" 11 ⟨"MotionPost$State", "<init>", "()V"⟩ "MotionPost",
  .methodLinkNest "MotionPost" 109 ⟨"MotionPost$Picture", "valueAt", "(I)I"⟩ "MotionPost",
  .methodLinkNest "MotionPost" 148 ⟨"MotionPost$State", "isKeyDue", "()Z"⟩ "MotionPost",
  .methodLinkNest "MotionPost" 165 ⟨"MotionPost$Plan", "foreseePicture", "(LMotionPost$State;)V"⟩ "MotionPost",
  .methodLinkNest "MotionPost$Plan" 35 ⟨"MotionPost$State", "isKeyDue", "()Z"⟩ "MotionPost",
  .methodLinkNest "MotionPost$Plan" 44 ⟨"MotionPost$Moves", "bestByLooking", "(LMotionPost$State;I)I"⟩ "MotionPost",
  .methodLinkNest "MotionPost$Moves" 9 ⟨"MotionPost", "downOf", "(I)I"⟩ "MotionPost",
  .methodLinkNest "MotionPost$Moves" 13 ⟨"MotionPost", "rightOf", "(I)I"⟩ "MotionPost",
  .methodLinkNest "MotionPost$Moves" 16 ⟨"MotionPost", "pixelIn", "(II)I"⟩ "MotionPost",
  .methodLinkNest "MotionPost$Moves" 26 ⟨"MotionPost$Picture", "valueAt", "(I)I"⟩ "MotionPost",
  .methodLinkNest "MotionPost$Moves" 34 ⟨"MotionPost$Picture", "movedValueAt", "(III)I"⟩ "MotionPost",
  .methodLinkNest "MotionPost$Plan" 61 ⟨"MotionPost", "pixelIn", "(II)I"⟩ "MotionPost",
  .methodLinkNest "MotionPost$Plan" 68 ⟨"MotionPost", "downOf", "(I)I"⟩ "MotionPost",
  .methodLinkNest "MotionPost$Plan" 72 ⟨"MotionPost", "rightOf", "(I)I"⟩ "MotionPost",
  .methodLinkNest "MotionPost$Plan" 75 ⟨"MotionPost$Picture", "movedValueAt", "(III)I"⟩ "MotionPost",
  .methodLinkNest "MotionPost$Plan" 79 ⟨"MotionPost$Picture", "put", "(II)I"⟩ "MotionPost",
  .methodLinkNest "MotionPost$Plan" 85 ⟨"MotionPost$Picture", "valueAt", "(I)I"⟩ "MotionPost",
  .methodLinkNest "MotionPost" 11 ⟨"MotionPost$State", "<init>", "()V"⟩ "MotionPost",
  .methodLinkNest "MotionPost" 69 ⟨"MotionPost$History", "record", "(LMotionPost$State;)V"⟩ "MotionPost",
  .methodLinkNest "MotionPost$History" 29 ⟨"MotionPost$State", "copyFrom", "(LMotionPost$State;)V"⟩ "MotionPost",
  .methodLinkNest "MotionPost$State" 47 ⟨"MotionPost$Picture", "copyFrom", "(LMotionPost$Picture;)V"⟩ "MotionPost",
  .methodLinkNest "MotionPost" 76 ⟨"MotionPost$Picture", "put", "(II)I"⟩ "MotionPost",
  .methodLinkNest "MotionPost" 80 ⟨"MotionPost$Picture", "putRectangle", "(IIII)I"⟩ "MotionPost",
  .methodLinkNest "MotionPost" 252 ⟨"MotionPost$Picture", "copyFrom", "(LMotionPost$Picture;)V"⟩ "MotionPost",
  .methodLinkNest "MotionPost" 255 ⟨"MotionPost$Picture", "takeMoved", "(LMotionPost$Picture;II)I"⟩ "MotionPost",
  .methodLinkNest "MotionPost" 158 ⟨"MotionPost$Plan", "kindOf", "(I)I"⟩ "MotionPost",
  .methodLinkNest "MotionPost" 265 ⟨"MotionPost$Plan", "moveOf", "(I)I"⟩ "MotionPost",
  .methodLinkNest "MotionPost" 286 ⟨"MotionPost$Picture", "movedValueAt", "(III)I"⟩ "MotionPost",
  .methodLinkNest "MotionPost" 274 ⟨"MotionPost$Plan", "additionAt", "(I)I"⟩ "MotionPost",
  .methodLinkNest "MotionPost" 132 ⟨"MotionPost$Moves", "distanceBy", "(LMotionPost$State;II)I"⟩ "MotionPost",
  .methodLinkNest "MotionPost" 138 ⟨"MotionPost$Moves", "bestByLooking", "(LMotionPost$State;I)I"⟩ "MotionPost",
  .methodLinkNest "MotionPost" 142 ⟨"MotionPost$Moves", "bestByStopping", "(LMotionPost$State;I)I"⟩ "MotionPost",
  .methodLinkNest "MotionPost" 145 ⟨"MotionPost$Moves", "countBest", "(LMotionPost$State;I)I"⟩ "MotionPost",
  .methodLinkNest "MotionPost" 151 ⟨"MotionPost$Plan", "foreseeBlock", "(LMotionPost$State;II)V"⟩ "MotionPost",
  .methodLinkNest "MotionPost" 155 ⟨"MotionPost$Plan", "weighBlock", "(II)I"⟩ "MotionPost",
  .methodLinkNest "MotionPost" 161 ⟨"MotionPost$BitRow", "writeBlock", "(LMotionPost$Plan;LMotionPost$Picture;II)I"⟩ "MotionPost",
  .methodLinkNest "MotionPost$BitRow" 19 ⟨"MotionPost$Plan", "moveOf", "(I)I"⟩ "MotionPost",
  .methodLinkNest "MotionPost$BitRow" 29 ⟨"MotionPost", "pixelIn", "(II)I"⟩ "MotionPost",
  .methodLinkNest "MotionPost$BitRow" 33 ⟨"MotionPost$Plan", "levelAt", "(II)I"⟩ "MotionPost",
  .methodLinkNest "MotionPost$BitRow" 44 ⟨"MotionPost$Picture", "valueAt", "(I)I"⟩ "MotionPost",
  .methodLinkNest "MotionPost" 11 ⟨"MotionPost$State", "<init>", "()V"⟩ "MotionPost",
  .methodLinkNest "MotionPost" 11 ⟨"MotionPost$State", "<init>", "()V"⟩ "MotionPost",
  .methodLinkNest "MotionPost" 11 ⟨"MotionPost$State", "<init>", "()V"⟩ "MotionPost",
  .methodLinkNest "MotionPost" 11 ⟨"MotionPost$State", "<init>", "()V"⟩ "MotionPost",
  .methodLinkNest "MotionPost" 11 ⟨"MotionPost$State", "<init>", "()V"⟩ "MotionPost",
  .methodLinkNest "MotionPost" 11 ⟨"MotionPost$State", "<init>", "()V"⟩ "MotionPost",
  .methodLinkNest "MotionPost" 226 ⟨"MotionPost$History", "takeBack", "(LMotionPost$State;)V"⟩ "MotionPost",
  .methodLinkNest "MotionPost" 11 ⟨"MotionPost$State", "<init>", "()V"⟩ "MotionPost",
  .castable "java/lang/IndexOutOfBoundsException" "java/lang/IndexOutOfBoundsException",
  .castable "java/lang/IllegalArgumentException" "java/lang/IllegalArgumentException",
  .castable "java/lang/IllegalStateException" "java/lang/IllegalStateException"]
def strL : List (Nat × String) := [(244, "no such pixel"), (250, "out of range"), (93, "no more pictures can be sent"), (246, "no such block"), (129, "no such move"), (244, "no such pixel"), (244, "no such pixel"), (244, "no such pixel"), (224, "no state is recorded"), (244, "no such pixel"), (244, "no such pixel")]

def isNest (w : Cond) : Bool := match w with
  | .fieldLinkNest _ _ _ _ _ _ => true
  | .methodLinkNest _ _ _ _ => true
  | .castable _ _ => true
  | _ => false
theorem nsL_nest : ∀ w ∈ nsL, isNest w = true := by decide +kernel
theorem nest_warm {w : Cond} (hw : isNest w = true) {s U : State} (hW : s.WarmedH U.vm) (h : va_Nw w s) : va_Nw w U := by
  unfold isNest at hw
  split at hw
  · exact va_Nw.warmF hW h
  · exact va_Nw.warmM hW h
  · exact va_Nw.warmC hW h
  · cases hw
abbrev GT : Type := va_G × (ClassId × ClassId × ClassId × ClassId × ClassId) × Nat × (Nat → Nat)
abbrev gD (G : GT) : va_G := G.1
abbrev cI (G : GT) : ClassId := G.2.1.1
abbrev cZ (G : GT) : ClassId := G.2.1.2.1
abbrev cC (G : GT) : ClassId := G.2.1.2.2.1
abbrev cO (G : GT) : ClassId := G.2.1.2.2.2.1
abbrev cL (G : GT) : ClassId := G.2.1.2.2.2.2
abbrev gB (G : GT) : Nat := G.2.2.1
abbrev gS (G : GT) : Nat → Nat := G.2.2.2
abbrev tyl (G : GT) : List (ClassId × FieldType) := [(cI G, .int), (cZ G, .boolean), (cC G, .char), (cO G, .object RX7), (cI G, .int)]
abbrev lo (G : GT) : Nat → Prop := fun q => gB G ≤ q
def shortF : Nat → Int32 := fun j => ([12, 7, 11, 13, 17, 2, 6, 8, 10, 14, 16, 18, 22, 1, 3, 5, 9, 15, 19, 21, 23, 0, 4, 20, 24] : List Int32).getD j 0
abbrev PP (G : GT) (ws : va_W) (H : Heap) : Prop := va_P (gD G) vwCl ws H
/-- pairs of exceptions of which the first isn't the second -/
def ncL : List (String × String) := [("java/lang/IllegalArgumentException", "java/lang/IndexOutOfBoundsException"), ("java/lang/IllegalStateException", "java/lang/IndexOutOfBoundsException"), ("java/lang/IllegalStateException", "java/lang/IllegalArgumentException")]
/-- what every method may rely on: classes, nest links, texts, the statics that nobody writes -/
def CT (G : GT) (U : State) : Prop :=
  va_K (gD G) vwCl (tyl G) U ∧ (∀ w ∈ nsL, va_Nw w U) ∧ (∀ q ∈ strL, vk_R RX8 q.1 q.2 (gS G q.1) U) ∧ gB G ≤ U.heap.size ∧
  (∀ q ∈ ncL, va_Nc q.1 q.2 U) ∧ (vx_Zq Bundle.tN "UNASSIGNED_STACK" Bundle.steD (lo G) U U.heap ∧ vx_Zq Bundle.tN "SUPPRESSED_SENTINEL" Bundle.listD (lo G) U U.heap) ∧
  ∃ t : Nat, va_Z RX3 "SHORT_FIRST" "[I" (.ref t) (lo G) U U.heap ∧ va_T .int t 25 (fun j => .int (shortF j)) (lo G) U U.heap
theorem CT.K {G : GT} {U : State} (h : CT G U) : va_K (gD G) vwCl (tyl G) U := h.1
theorem CT.nest {G : GT} {U : State} (h : CT G U) (i : Nat) {w : Cond} (hw : nsL[i]? = some w) : va_Nw w U := h.2.1 w (List.mem_of_getElem? hw)
theorem CT.zU {G : GT} {U : State} (h : CT G U) : vx_Zq Bundle.tN "UNASSIGNED_STACK" Bundle.steD (lo G) U U.heap := h.2.2.2.2.2.1.1
theorem CT.zN {G : GT} {U : State} (h : CT G U) : vx_Zq Bundle.tN "SUPPRESSED_SENTINEL" Bundle.listD (lo G) U U.heap := h.2.2.2.2.2.1.2
theorem CT.nc {G : GT} {U : State} (h : CT G U) (i : Nat) {q : String × String} (hq : ncL[i]? = some q) : va_Nc q.1 q.2 U := h.2.2.2.2.1 q (List.mem_of_getElem? hq)
theorem CT.str {G : GT} {U : State} (h : CT G U) (i : Nat) {q : Nat × String} (hq : strL[i]? = some q) : vk_R RX8 q.1 q.2 (gS G q.1) U := h.2.2.1 q (List.mem_of_getElem? hq)
theorem CT.nestW {G : GT} {U : State} (h : CT G U) (i : Nat) {w : Cond} (hw : nsL[i]? = some w) {A : Array Value} (ho : w.onTables = true) : w.before A U = true := va_Nw.use ho (h.nest i hw)
theorem CT.go {G : GT} {s U : State} (h : CT G s) (hW : s.WarmedH U.vm) (hz : s.heap.size ≤ U.heap.size) (hk : ∀ q : Nat, q < s.heap.size → ¬ lo G q → U.heap[q]? = s.heap[q]?) : CT G U := by
  obtain ⟨h1, h2, h3, h4, h9, ⟨h5, h6⟩, t, h7, h8⟩ := h
  refine ⟨va_K.moved hW.alike h1, fun w hw => nest_warm (nsL_nest w hw) hW (h2 w hw), fun q hq => vk_R.warm hW (h3 q hq), Nat.le_trans h4 hz, fun q hq => va_Nc.moved hW.alike (h9 q hq), ⟨?_, ?_⟩, t, ?_, ?_⟩
  · exact (h5.moved hW.alike).kept hk
  · exact (h6.moved hW.alike).kept hk
  · exact (h7.moved hW.alike).kept hk
  · exact (h8.moved hW.alike).kept hk
theorem CT.blind {G : GT} {U : State} (h : CT G U) (g : JFrame) (mk : MethodId) (a : Array Value) : CT G (U.calling g mk a) := by
  obtain ⟨h1, h2, h3, h4, h10, ⟨h5, h6⟩, t, h7, h8⟩ := h
  refine ⟨va_K.moved (u := U) (U := U.calling g mk a) (Vm.Alike.refl U.vm) h1, fun w hw => ?_, fun q hq => vk_R.same rfl (h3 q hq), h4, fun q hq => va_Nc.moved (u := U) (U := U.calling g mk a) (Vm.Alike.refl U.vm) (h10 q hq), ⟨?_, ?_⟩, t, ?_, ?_⟩
  · have hn := nsL_nest w hw
    have h9 := h2 w hw
    unfold isNest at hn
    split at hn
    · exact va_Nw.same (u := U) (U := U.calling g mk a) rfl rfl h9
    · exact va_Nw.same (u := U) (U := U.calling g mk a) rfl rfl h9
    · exact va_Nw.same (u := U) (U := U.calling g mk a) rfl rfl h9
    · cases hn
  · exact h5.moved (u := U) (U := U.calling g mk a) (Vm.Alike.refl U.vm)
  · exact h6.moved (u := U) (U := U.calling g mk a) (Vm.Alike.refl U.vm)
  · exact h7.moved (u := U) (U := U.calling g mk a) (Vm.Alike.refl U.vm)
  · exact h8.moved (u := U) (U := U.calling g mk a) (Vm.Alike.refl U.vm)
def pcG (G : GT) (av : List Value) (H0 : Heap) : Array Value → State → Prop := va_Pc av (fun U => U.heap = H0 ∧ CT G U)
theorem pcG_blind (G : GT) (av : List Value) (H0 : Heap) : FrameBlind (pcG G av H0) := fun a U g mk q => ⟨q.1, q.2.1, q.2.2.blind g mk a⟩
theorem CT.at {G : GT} {s U : State} {A : Nat → Prop} {H : Heap} {locs : List Loc} (h : CT G s) (hS : va_S A s.heap H locs) (hA : ∀ q, A q → lo G q) (hU : U.heap = H) (hW : s.WarmedH U.vm) : CT G U :=
  h.go hW (by rw [hU]; exact hS.1) (fun q hq hn => by rw [hU]; exact hS.2.1 q hq (fun z => hn (hA q z)))
theorem preS {G : GT} {s : State} {A : Nat → Prop} {H : Heap} {locs : List Loc} {As : List Value} (h : CT G s) (hS : va_S A s.heap H locs) (hA : ∀ q, A q → lo G q) : PreS s H (pcG G As H) As :=
  ⟨pcG_blind G As H, fun U hU hW => ⟨rfl, hU, h.at hS hA hU hW⟩⟩
theorem preV {G : GT} {s : State} {A : Nat → Prop} {H : Heap} {locs : List Loc} {As : List Value} {b q0 ci : Nat} {r : vw_C} {fs : List Value} {ws : va_W} (h : CT G s) (hS : va_S A s.heap H locs) (hA : ∀ q, A q → lo G q) (hP : PP G ws H) (hc : vwCl[ci]? = some r) (he : ws[q0]? = some (b, .inr (ci, fs))) : PreV s H r.1 b (pcG G (.ref b :: As) H) As :=
  ⟨pcG_blind G (.ref b :: As) H, va_recv h.K hP hc he, fun U hU hW => ⟨rfl, hU, h.at hS hA hU hW⟩⟩
/-- the entry of a method -/
theorem enter {G : GT} {l : Launch} {y : MethodName} {ws ws' : List Cond} {rm : Room} {as : List Value} {H0 : Heap} {Qc : Array Value → State → Outcome → State → Prop} {mc ms : Nat} {free : Addr → Prop} {cc : ByteArray} {maxL : Nat} {ret : Option FieldType} {own : String} {lv : List (Nat × Value)}
    (hy : plainName y.cls = true) (hw : ws = Cond.code y cc maxL ret :: ws') (ho : y.cls = own) (hlv : lv_args 0 as = lv) (hn : (lg_sl as).length ≤ maxL)
    (body : ∀ (p : Program) (e : Env) (s : State) (m : MethodId) (below : List Frame) (meth : Method) (c : Code), p.tables.exec = Jvm.exec → c.code = cc → meth.sig.returnType = ret → (∀ w ∈ ws, w.before as.toArray s = true) → s.vm.findClass own = some m.cls → meth.locks = false → c.maxLocals = maxL → meth.name = y.name → s.heap = H0 → CT G s → ∀ ls : Array Slot, lv_has ls maxL lv → W p l e rm s m as.toArray below meth c s.heap [] 0 0 (MQ below Qc as.toArray s mc ms free) (F0 m 0 ls [])) : Met l y ws rm (pcG G as H0) Qc mc ms free := by
  refine Met.ofW (cc := cc) (maxL := maxL) (ret := ret) hy hw ?_
  intro p e s m args below meth c s₁ B hml hv
  obtain ⟨rfl, hH, hC⟩ := hv
  subst ho
  have hl := lv_entry as hn
  rw [hlv] at hl
  rw [lg_entry_eq]
  exact body p e s m below meth c B.exec B.bytes B.returns (atoms_spec (ws := ws) B.pre) (findClass_of_methodNamed B.named) B.notSynchronized hml (name_of_methodNamed B.named B.method).1 hH hC _ hl
/-- places set, one after the other -/
def stl : va_W → List Nat → va_W → va_W
  | ws, i :: is, w :: w1 => stl (ws.set i w) is w1
  | ws, _, _ => ws
theorem stl_spec : ∀ (is : List Nat) (ws w1 wc : va_W), is.Nodup → is.map (fun i => ws[i]?) = wc.map some → w1.map Prod.fst = wc.map Prod.fst →
    (∀ (k : Nat) (q : Nat × va_E), (stl ws is w1)[k]? = some q → (∃ j : Nat, w1[j]? = some q ∧ is[j]? = some k) ∨ (k ∉ is ∧ ws[k]? = some q)) ∧ (stl ws is w1).map Prod.fst = ws.map Prod.fst := by
  intro is
  induction is with
  | nil =>
    intro ws w1 wc _ _ _
    have e : stl ws [] w1 = ws := by cases w1 <;> rfl
    rw [e]
    exact ⟨fun k q h => Or.inr ⟨List.not_mem_nil, h⟩, rfl⟩
  | cons i is ih =>
    intro ws w1 wc hn hC hf
    cases wc with
    | nil => simp at hC
    | cons c0 wc =>
      cases w1 with
      | nil => simp at hf
      | cons w0 w1 =>
        simp only [List.map_cons, List.cons.injEq] at hC hf
        obtain ⟨hni, hn⟩ := List.nodup_cons.mp hn
        have hC2 : is.map (fun k => (ws.set i w0)[k]?) = wc.map some := by
          rw [← hC.2]
          apply List.map_congr_left
          intro k hk
          have : i ≠ k := fun z => hni (z ▸ hk)
          simp [List.getElem?_set_ne this]
        obtain ⟨h1, h2⟩ := ih (ws.set i w0) w1 wc hn hC2 hf.2
        have hlt : i < ws.length := (List.getElem?_eq_some_iff.mp hC.1).1
        constructor
        · intro k q hk
          rcases h1 k q hk with ⟨j, a, b⟩ | ⟨a, b⟩
          · exact Or.inl ⟨j + 1, by simpa using a, by simpa using b⟩
          · by_cases hik : i = k
            · subst hik
              rw [List.getElem?_set_self hlt] at b
              exact Or.inl ⟨0, by simpa using b, rfl⟩
            · rw [List.getElem?_set_ne hik] at b
              exact Or.inr ⟨fun z => (List.mem_cons.mp z).elim (fun z => hik z.symm) a, b⟩
        · show (stl (ws.set i w0) is w1).map Prod.fst = _
          rw [h2, List.map_set]
          apply List.ext_getElem?
          intro k
          by_cases hik : i = k
          · subst hik
            have hl2 : i < (ws.map Prod.fst).length := by simpa using hlt
            rw [List.getElem?_set_self hl2, List.getElem?_map, hC.1, hf.1]; rfl
          · rw [List.getElem?_set_ne hik]
theorem va_D.fst {A : Nat → Prop} {ws ws' : va_W} (h : va_D A ws) (hf : ws'.map Prod.fst = ws.map Prod.fst) : va_D A ws' := by
  have key : ∀ (k : Nat) (q : Nat × va_E), ws'[k]? = some q → ∃ q2 : Nat × va_E, ws[k]? = some q2 ∧ q2.1 = q.1 := by
    intro k q hk
    have h2 := congrArg (fun l : List Nat => l[k]?) hf
    simp only [List.getElem?_map, hk, Option.map_some] at h2
    cases h3 : ws[k]? with
    | none => rw [h3] at h2; simp at h2
    | some q2 => rw [h3] at h2; simp at h2; exact ⟨q2, rfl, h2.symm⟩
  refine ⟨fun i j p q hi hj hpq => ?_, fun k q hk => ?_⟩
  · obtain ⟨p2, a1, a2⟩ := key i p hi
    obtain ⟨q2, b1, b2⟩ := key j q hj
    exact h.1 i j p2 q2 a1 b1 (by rw [a2, b2, hpq])
  · obtain ⟨q2, a1, a2⟩ := key k q hk
    rw [← a2]
    exact h.2 k q2 a1
/-- behind a call that makes nothing: the callee's cells, set at their places -/
theorem zm {A0 : Nat → Prop} {D : va_G} {cl : List vw_C} {ws wc w1 : va_W} {H H1 : Heap} (hP : va_P D cl ws H) (hD : va_D A0 ws) (is : List Nat) (hn : is.Nodup) (hC : is.map (fun i => ws[i]?) = wc.map some) (hf : w1.map Prod.fst = wc.map Prod.fst)
    (hk : ∀ q : Nat, q < H.size → ¬ va_A wc H.size q → H1[q]? = H[q]?) (hP1 : va_P D cl w1 H1) : va_P D cl (stl ws is w1) H1 ∧ va_D A0 (stl ws is w1) := by
  obtain ⟨h1, h2⟩ := stl_spec is ws w1 wc hn hC hf
  refine ⟨fun k q hq => ?_, hD.fst h2⟩
  rcases h1 k q hq with ⟨j, a, b⟩ | ⟨a, b⟩
  · exact hP1 j q a
  · refine (hP k q b).kept (hk q.1 (hP k q b).lt ?_)
    rintro (⟨j, e, he⟩ | hz)
    · have h3 := congrArg (fun l : List (Option (Nat × va_E)) => l[j]?) hC
      simp only [List.getElem?_map, he, Option.map_some] at h3
      cases h4 : is[j]? with
      | none => rw [h4] at h3; simp at h3
      | some k2 =>
        rw [h4] at h3
        simp only [Option.map_some, Option.some.injEq] at h3
        have := hD.1 k k2 q (q.1, e) b h3 rfl
        subst this
        exact a (List.mem_of_getElem? h4)
    · exact absurd (hP k q b).lt (Nat.not_lt.mpr hz)
theorem va_freeB {G : GT} {ws : va_W} {H0 : Heap} (hB : va_D (lo G) ws) (hz : gB G ≤ H0.size) : ∀ q, va_A ws H0.size q → lo G q := by
  rintro q (⟨k, e, he⟩ | h)
  · exact hB.2 k (q, e) he
  · exact Nat.le_trans hz h
abbrev noF : Nat → Prop := fun _ => False
abbrev qPi (E : Int32) (H0 : Heap) : Array Value → State → Outcome → State → Prop := va_Qi (fun (r : Int32) (_ : Unit) => r = E) (fun _ t => t.heap = H0) noF
abbrev qMi {S : Type} (G : GT) (post : Int32 → S → Prop) (w1 : S → va_W) (ws : va_W) (H0 : Heap) : Array Value → State → Outcome → State → Prop := va_Qi post (fun u t => PP G (w1 u) t.heap) (va_A ws H0.size)
abbrev qMv {S : Type} (G : GT) (post : S → Prop) (w1 : S → va_W) (ws : va_W) (H0 : Heap) : Array Value → State → Outcome → State → Prop := va_Qv post (fun u t => PP G (w1 u) t.heap) (va_A ws H0.size)
section MYK
variable {p : Program} {l : Launch} {e : Env} {R : Room} {s : State} {m : MethodId} {args : Array Value} {below : List Frame} {meth : Method} {c : Code} {H : Heap} {locs : List Loc} {cells slots : Nat} {Q : State → Prop}
variable {cc : ByteArray} {pc : Nat} {ls : Array Slot} {rest st0 : List Value} {a : Array Value} {A0 A1 : Nat → Prop} {H0 : Heap} {mc ms : Nat} {G : GT}
/-- a call that writes nothing -/
theorem kPi {E : Int32} (hr : va_Run p l e R s m args below meth c H locs cells slots 0 0 (F0 m pc ls st0) rest (qPi E H a) noF) (hS : va_S A0 H0 H locs)
    (kk : ∀ locs1 : List Loc, va_S A0 H0 H locs1 → W p l e R s m args below meth c H locs1 cells slots Q (F0 m (pc + 3) ls (.int E :: rest))) : W p l e R s m args below meth c H locs cells slots Q (F0 m pc ls st0) := by
  refine va_calli hr hS (fun _ _ h => h.elim) (fun _ h => h.elim) (fun r u t H1 locs1 ht _ hr hB _ _ hS1 => ?_)
  subst hr
  have h1 : H1 = H := ht.symm.trans hB
  subst h1
  exact kk locs1 hS1
/-- a call that writes its cells -/
theorem kMi {S : Type} {post : Int32 → S → Prop} {w1 : S → va_W} {wc ws : va_W} (hr : va_Run p l e R s m args below meth c H locs cells slots mc ms (F0 m pc ls st0) rest (qMi G post w1 wc H a) (va_A wc H.size)) (hP : PP G ws H) (hD : va_D A0 ws) (hS : va_S A0 H0 H locs) (hA : ∀ q, H0.size ≤ q → A0 q)
    (is : List Nat) (hn : is.Nodup) (hC : is.map (fun i => ws[i]?) = wc.map some) (hf : ∀ u, (w1 u).map Prod.fst = wc.map Prod.fst)
    (kk : ∀ (r : Int32) (u : S) (H1 : Heap) (locs1 : List Loc), post r u → PP G (stl ws is (w1 u)) H1 → va_D A0 (stl ws is (w1 u)) → va_S A0 H0 H1 locs1 → W p l e R s m args below meth c H1 locs1 (cells + mc) (slots + ms) Q (F0 m (pc + 3) ls (.int r :: rest))) : W p l e R s m args below meth c H locs cells slots Q (F0 m pc ls st0) := by
  have hFc := va_free (wc := wc) hD hS hA is hC
  refine va_calli hr hS (fun q _ h => hFc q h) hFc (fun r u t H1 locs1 ht _ hr hB _ hk hS1 => ?_)
  rw [ht] at hB
  obtain ⟨h1, h2⟩ := zm hP hD is hn hC (hf u) hk hB
  exact kk r u H1 locs1 hr h1 h2 hS1
theorem kMv {S : Type} {post : S → Prop} {w1 : S → va_W} {wc ws : va_W} (hr : va_Run p l e R s m args below meth c H locs cells slots mc ms (F0 m pc ls st0) rest (qMv G post w1 wc H a) (va_A wc H.size)) (hP : PP G ws H) (hD : va_D A0 ws) (hS : va_S A0 H0 H locs) (hA : ∀ q, H0.size ≤ q → A0 q)
    (is : List Nat) (hn : is.Nodup) (hC : is.map (fun i => ws[i]?) = wc.map some) (hf : ∀ u, (w1 u).map Prod.fst = wc.map Prod.fst)
    (kk : ∀ (u : S) (H1 : Heap) (locs1 : List Loc), post u → PP G (stl ws is (w1 u)) H1 → va_D A0 (stl ws is (w1 u)) → va_S A0 H0 H1 locs1 → W p l e R s m args below meth c H1 locs1 (cells + mc) (slots + ms) Q (F0 m (pc + 3) ls rest)) : W p l e R s m args below meth c H locs cells slots Q (F0 m pc ls st0) := by
  have hFc := va_free (wc := wc) hD hS hA is hC
  refine va_callv hr hS (fun q _ h => hFc q h) hFc (fun u t H1 locs1 ht _ hr hB _ hk hS1 => ?_)
  rw [ht] at hB
  obtain ⟨h1, h2⟩ := zm hP hD is hn hC (hf u) hk hB
  exact kk u H1 locs1 hr h1 h2 hS1
/-- the ends -/
theorem xPi {E v : Int32} {ty : FieldType} (hx : p.tables.exec = Jvm.exec) (hb : c.code = cc) (hr : meth.sig.returnType = some ty) (hlocks : meth.locks = false) (hS : va_S noF s.heap s.heap locs) (hv : v = E) (hn : narrow ty (.int v) = .int v) (hdg : decode cc pc = .ok (.ireturn, 1)) :
    W p l e R s m args below meth c s.heap locs cells slots (MQ below (qPi E s.heap) args s cells slots noF) (F0 m pc ls [.int v]) :=
  W.zret hx hb hr hn (fun t ht _ => ⟨⟨v, (), rfl, hv, ht⟩, hS.F ht⟩) hS.2.2 hdg hlocks
theorem xMi {S : Type} {post : Int32 → S → Prop} {w1 : S → va_W} {v : Int32} {ty : FieldType} (u : S) (hx : p.tables.exec = Jvm.exec) (hb : c.code = cc) (hr : meth.sig.returnType = some ty) (hlocks : meth.locks = false) (hP : PP G (w1 u) H) (hS : va_S A0 s.heap H locs) (hv : post v u) (hn : narrow ty (.int v) = .int v) (hdg : decode cc pc = .ok (.ireturn, 1)) :
    W p l e R s m args below meth c H locs cells slots (MQ below (va_Qi post (fun u t => PP G (w1 u) t.heap) A0) args s cells slots A0) (F0 m pc ls [.int v]) :=
  W.zret hx hb hr hn (fun t ht _ => ⟨⟨v, u, rfl, hv, by show PP G (w1 u) t.heap; rw [ht]; exact hP⟩, hS.F ht⟩) hS.2.2 hdg hlocks
theorem xMv {S : Type} {post : S → Prop} {w1 : S → va_W} (u : S) (hx : p.tables.exec = Jvm.exec) (hb : c.code = cc) (hr : meth.sig.returnType = none) (hlocks : meth.locks = false) (hP : PP G (w1 u) H) (hS : va_S A0 s.heap H locs) (hv : post u) (hdg : decode cc pc = .ok (.return_, 1)) :
    W p l e R s m args below meth c H locs cells slots (MQ below (va_Qv post (fun u t => PP G (w1 u) t.heap) A0) args s cells slots A0) (F0 m pc ls []) :=
  W.vret hx hb hr (fun t ht _ => ⟨⟨u, rfl, hv, by show PP G (w1 u) t.heap; rw [ht]; exact hP⟩, hS.F ht⟩) hS.2.2 hdg hlocks
/-- the top of the stack, by another name -/
theorem topE {v v' : Int32} (h : v = v') (k : W p l e R s m args below meth c H locs cells slots Q (F0 m pc ls (.int v' :: rest))) : W p l e R s m args below meth c H locs cells slots Q (F0 m pc ls (.int v :: rest)) := by
  subst h; exact k
end MYK
/-! numbers -/
def iI (z : Int) : Int32 := Int32.ofInt z
theorem nI_i (n : Nat) : nI n = iI (n : Int) := by
  apply Int32.toInt_inj.mp
  show (Int32.ofNat n).toInt = (Int32.ofInt (n : Int)).toInt
  rw [Int32.ofInt_eq_ofNat]
theorem iI_add (a b : Int) : iI a + iI b = iI (a + b) := (Int32.ofInt_add a b).symm
theorem iI_sub (a b : Int) : iI a - iI b = iI (a - b) := (Int32.ofInt_sub a b).symm
theorem iI_mul (a b : Int) : iI a * iI b = iI (a * b) := (Int32.ofInt_mul a b).symm
theorem iI_self (x : Int32) : iI x.toInt = x := Int32.ofInt_toInt x
theorem iI_toInt {a : Int} (h1 : -2147483648 ≤ a) (h2 : a < 2147483648) : (iI a).toInt = a := by
  rw [iI, Int32.toInt_ofInt]
  have e : ((Int32.size : Nat) : Int) = 4294967296 := rfl
  exact Int.bmod_eq_of_le (by omega) (by omega)
theorem iI_div {a b : Int} (h1 : -2147483648 < a) (h2 : a < 2147483648) (h3 : -2147483648 ≤ b) (h4 : b < 2147483648) : iI a / iI b = iI (a.tdiv b) := by
  apply Int32.toInt_inj.mp
  rw [Int32.toInt_div, iI_toInt (by omega) h2, iI_toInt h3 h4, iI, Int32.toInt_ofInt]
noncomputable def bI (P : Prop) : Int32 := @ite Int32 P (Classical.propDecidable P) 1 0
theorem bI_t {P : Prop} (h : P) : bI P = 1 := by unfold bI; rw [if_pos h]
theorem bI_f {P : Prop} (h : ¬ P) : bI P = 0 := by unfold bI; rw [if_neg h]
theorem bI_0 {P : Prop} : bI P = 0 ↔ ¬ P := by
  by_cases h : P
  · rw [bI_t h]; exact ⟨fun z => absurd z (by decide), fun z => absurd h z⟩
  · rw [bI_f h]; exact ⟨fun _ => h, fun _ => rfl⟩
theorem bI_1 {P : Prop} : bI P = 1 ↔ P := by
  by_cases h : P
  · rw [bI_t h]; exact ⟨fun _ => h, fun _ => rfl⟩
  · rw [bI_f h]; exact ⟨fun z => absurd z (by decide), fun z => absurd z h⟩
theorem bI_c {P Q : Prop} (h : P ↔ Q) : bI P = bI Q := by
  by_cases q : Q
  · rw [bI_t q, bI_t (h.mpr q)]
  · rw [bI_f q, bI_f (fun z => q (h.mp z))]
theorem bI_n (P : Prop) : narrow .boolean (.int (bI P)) = .int (bI P) := by
  by_cases h : P
  · rw [bI_t h]; rfl
  · rw [bI_f h]; rfl
theorem c_lt {x y : Int32} {a b : Int} (hx : x.toInt = a) (hy : y.toInt = b) : x < y ↔ a < b := by rw [Int32.lt_iff_toInt_lt, hx, hy]
theorem c_le {x y : Int32} {a b : Int} (hx : x.toInt = a) (hy : y.toInt = b) : x ≤ y ↔ a ≤ b := by rw [Int32.le_iff_toInt_le, hx, hy]
theorem c_eq {x y : Int32} {a b : Int} (hx : x.toInt = a) (hy : y.toInt = b) : x = y ↔ a = b := by rw [← Int32.toInt_inj, hx, hy]
theorem z_add {x y : Int32} {a b : Int} (hx : x = iI a) (hy : y = iI b) : x + y = iI (a + b) := by rw [hx, hy, iI_add]
theorem z_sub {x y : Int32} {a b : Int} (hx : x = iI a) (hy : y = iI b) : x - y = iI (a - b) := by rw [hx, hy, iI_sub]
theorem z_mul {x y : Int32} {a b : Int} (hx : x = iI a) (hy : y = iI b) : x * y = iI (a * b) := by rw [hx, hy, iI_mul]
theorem z_div {x y : Int32} {a b : Int} (hx : x = iI a) (hy : y = iI b) (h1 : -2147483648 < a) (h2 : a < 2147483648) (h3 : -2147483648 ≤ b) (h4 : b < 2147483648) : x / y = iI (a.tdiv b) := by rw [hx, hy, iI_div h1 h2 h3 h4]
theorem z_ne0 {a : Int} (h1 : -2147483648 ≤ a) (h2 : a < 2147483648) (h : a ≠ 0) : ¬ iI a = 0 := fun z => h (by
  have := congrArg Int32.toInt z
  rw [iI_toInt h1 h2] at this
  exact this)
theorem inc_p (a n : Nat) : nI a + Int32.ofInt (n : Int) = nI (a + n) := by
  have : Int32.ofInt (n : Int) = nI n := (nI_i n).symm
  rw [this, nI_add]
theorem inc_z (a n : Int) : iI a + Int32.ofInt n = iI (a + n) := iI_add a n
theorem inc_m (a n : Nat) (h : n ≤ a) : nI a + Int32.ofInt (-(n : Int)) = nI (a - n) := by
  have e : Int32.ofInt (-(n : Int)) = iI (-(n : Int)) := rfl
  rw [e, nI_i, nI_i, iI_add]
  congr 1
  omega
/-- the value without its sign -/
def ab (x : Int32) : Int32 := if 0 ≤ x then x else 0 - x
section MYR
variable {p : Program} {l : Launch} {e : Env} {R : Room} {s : State} {m : MethodId} {args : Array Value} {below : List Frame} {meth : Method} {c : Code} {H : Heap} {locs : List Loc} {cells slots : Nat} {Q : State → Prop}
variable {cc : ByteArray} {pc : Nat} {ls : Array Slot} {rest : List Value} {D : va_G} {cl : List vw_C} {A : Nat → Prop} {a : Nat} {tys : List (ClassId × FieldType)} {ws : va_W} {H0 : Heap}
theorem gAdd (hx : p.tables.exec = Jvm.exec) (hb : c.code = cc) {x y z : Int32} (hdg : decode cc pc = .ok (.iadd, 1)) (h : x + y = z) (k : W p l e R s m args below meth c H locs cells slots Q (F0 m (pc + 1) ls (.int z :: rest))) : W p l e R s m args below meth c H locs cells slots Q (F0 m pc ls (.int y :: .int x :: rest)) := by subst h; exact lv_iadd hx hb hdg k
theorem gSub (hx : p.tables.exec = Jvm.exec) (hb : c.code = cc) {x y z : Int32} (hdg : decode cc pc = .ok (.isub, 1)) (h : x - y = z) (k : W p l e R s m args below meth c H locs cells slots Q (F0 m (pc + 1) ls (.int z :: rest))) : W p l e R s m args below meth c H locs cells slots Q (F0 m pc ls (.int y :: .int x :: rest)) := by subst h; exact lv_isub hx hb hdg k
theorem gMul (hx : p.tables.exec = Jvm.exec) (hb : c.code = cc) {x y z : Int32} (hdg : decode cc pc = .ok (.imul, 1)) (h : x * y = z) (k : W p l e R s m args below meth c H locs cells slots Q (F0 m (pc + 1) ls (.int z :: rest))) : W p l e R s m args below meth c H locs cells slots Q (F0 m pc ls (.int y :: .int x :: rest)) := by subst h; exact lv_imul hx hb hdg k
theorem gDiv (hx : p.tables.exec = Jvm.exec) (hb : c.code = cc) {x y z : Int32} (hdg : decode cc pc = .ok (.idiv, 1)) (hne : ¬ y = 0) (h : x / y = z) (k : W p l e R s m args below meth c H locs cells slots Q (F0 m (pc + 1) ls (.int z :: rest))) : W p l e R s m args below meth c H locs cells slots Q (F0 m pc ls (.int y :: .int x :: rest)) := by subst h; exact lv_idiv hx hb hdg hne k
theorem gRem (hx : p.tables.exec = Jvm.exec) (hb : c.code = cc) {x y z : Int32} (hdg : decode cc pc = .ok (.irem, 1)) (hne : ¬ y = 0) (h : x - x / y * y = z) (k : W p l e R s m args below meth c H locs cells slots Q (F0 m (pc + 1) ls (.int z :: rest))) : W p l e R s m args below meth c H locs cells slots Q (F0 m pc ls (.int y :: .int x :: rest)) := by subst h; exact lv_irem hx hb hdg hne k
theorem gNeg (hx : p.tables.exec = Jvm.exec) (hb : c.code = cc) {x z : Int32} (hdg : decode cc pc = .ok (.ineg, 1)) (h : -x = z) (k : W p l e R s m args below meth c H locs cells slots Q (F0 m (pc + 1) ls (.int z :: rest))) : W p l e R s m args below meth c H locs cells slots Q (F0 m pc ls (.int x :: rest)) := by subst h; exact lv_ineg hx hb hdg k
theorem g_iand (hx : p.tables.exec = Jvm.exec) (hb : c.code = cc) {x y z : Int32} (hdg : decode cc pc = .ok (.iand, 1)) (h : x &&& y = z) (k : W p l e R s m args below meth c H locs cells slots Q (F0 m (pc + 1) ls (.int z :: rest))) : W p l e R s m args below meth c H locs cells slots Q (F0 m pc ls (.int y :: .int x :: rest)) := by subst h; exact lv_iand hx hb hdg k
theorem g_ior (hx : p.tables.exec = Jvm.exec) (hb : c.code = cc) {x y z : Int32} (hdg : decode cc pc = .ok (.ior, 1)) (h : x ||| y = z) (k : W p l e R s m args below meth c H locs cells slots Q (F0 m (pc + 1) ls (.int z :: rest))) : W p l e R s m args below meth c H locs cells slots Q (F0 m pc ls (.int y :: .int x :: rest)) := by subst h; exact lv_ior hx hb hdg k
theorem g_ishl (hx : p.tables.exec = Jvm.exec) (hb : c.code = cc) {x y z : Int32} (hdg : decode cc pc = .ok (.ishl, 1)) (h : x <<< (y &&& 31) = z) (k : W p l e R s m args below meth c H locs cells slots Q (F0 m (pc + 1) ls (.int z :: rest))) : W p l e R s m args below meth c H locs cells slots Q (F0 m pc ls (.int y :: .int x :: rest)) := by subst h; exact lv_ishl hx hb hdg k
theorem g_ishr (hx : p.tables.exec = Jvm.exec) (hb : c.code = cc) {x y z : Int32} (hdg : decode cc pc = .ok (.ishr, 1)) (h : x >>> (y &&& 31) = z) (k : W p l e R s m args below meth c H locs cells slots Q (F0 m (pc + 1) ls (.int z :: rest))) : W p l e R s m args below meth c H locs cells slots Q (F0 m pc ls (.int y :: .int x :: rest)) := by subst h; exact lv_ishr hx hb hdg k
theorem g_land (hx : p.tables.exec = Jvm.exec) (hb : c.code = cc) {x y z : Int64} (hdg : decode cc pc = .ok (.land, 1)) (h : x &&& y = z) (k : W p l e R s m args below meth c H locs cells slots Q (F0 m (pc + 1) ls (.long z :: rest))) : W p l e R s m args below meth c H locs cells slots Q (F0 m pc ls (.long y :: .long x :: rest)) := by subst h; exact lv_land hx hb hdg k
theorem g_lor (hx : p.tables.exec = Jvm.exec) (hb : c.code = cc) {x y z : Int64} (hdg : decode cc pc = .ok (.lor, 1)) (h : x ||| y = z) (k : W p l e R s m args below meth c H locs cells slots Q (F0 m (pc + 1) ls (.long z :: rest))) : W p l e R s m args below meth c H locs cells slots Q (F0 m pc ls (.long y :: .long x :: rest)) := by subst h; exact lv_lor hx hb hdg k
theorem ix_in {i : Int32} {j n : Nat} (hi : i = nI j) (hj : j < n) (hn : n < 2147483648) : vp_in i n := by subst hi; exact vp_in_nI hj hn
theorem ix_cl {i : Int32} {j n : Nat} (hi : i = nI j) (hj : j < n) (hn : n < 2147483648) : i.toNatClampNeg = j := by subst hi; exact nI_clamp (by omega)
theorem gIald (hx : p.tables.exec = Jvm.exec) (hb : c.code = cc) (hK : va_K D cl tys s) (hP : va_P D cl ws H) (q0 t0 : Nat) {cA : ClassId} {n : Nat} {f : Nat → Int32} (ha : ws[q0]? = some (a, .inl (cA, n, .inl f))) (ht : tys[t0]? = some (cA, .int)) {i : Int32} {j : Nat} (hi : i = nI j) (hj : j < n) (hn : n < 2147483648) (hdg : decode cc pc = .ok (.iaload, 1))
    (kk : W p l e R s m args below meth c H locs cells slots Q (F0 m (pc + 1) ls (.int (f j) :: rest))) : W p l e R s m args below meth c H locs cells slots Q (F0 m pc ls (.int i :: .ref a :: rest)) :=
  va_iald hx hb hK hP q0 t0 ha ht (ix_in hi hj hn) hdg (by rw [ix_cl hi hj hn]; exact kk)
theorem gZald (hx : p.tables.exec = Jvm.exec) (hb : c.code = cc) (hK : va_K D cl tys s) (hP : va_P D cl ws H) (q0 t0 : Nat) {cA : ClassId} {n : Nat} {f : Nat → Int32} (ha : ws[q0]? = some (a, .inl (cA, n, .inl f))) (ht : tys[t0]? = some (cA, .boolean)) {i : Int32} {j : Nat} (hi : i = nI j) (hj : j < n) (hn : n < 2147483648) (hdg : decode cc pc = .ok (.baload, 1))
    (kk : W p l e R s m args below meth c H locs cells slots Q (F0 m (pc + 1) ls (.int (f j) :: rest))) : W p l e R s m args below meth c H locs cells slots Q (F0 m pc ls (.int i :: .ref a :: rest)) :=
  va_zald hx hb hK hP q0 t0 ha ht (ix_in hi hj hn) hdg (by rw [ix_cl hi hj hn]; exact kk)
theorem gCald (hx : p.tables.exec = Jvm.exec) (hb : c.code = cc) (hK : va_K D cl tys s) (hP : va_P D cl ws H) (q0 t0 : Nat) {cA : ClassId} {n : Nat} {f : Nat → Int32} (ha : ws[q0]? = some (a, .inl (cA, n, .inl f))) (ht : tys[t0]? = some (cA, .char)) {i : Int32} {j : Nat} (hi : i = nI j) (hj : j < n) (hn : n < 2147483648) (hdg : decode cc pc = .ok (.caload, 1))
    (kk : W p l e R s m args below meth c H locs cells slots Q (F0 m (pc + 1) ls (.int (f j) :: rest))) : W p l e R s m args below meth c H locs cells slots Q (F0 m pc ls (.int i :: .ref a :: rest)) :=
  va_cald hx hb hK hP q0 t0 ha ht (ix_in hi hj hn) hdg (by rw [ix_cl hi hj hn]; exact kk)
theorem gLald (hx : p.tables.exec = Jvm.exec) (hb : c.code = cc) (hK : va_K D cl tys s) (hP : va_P D cl ws H) (q0 t0 : Nat) {cA : ClassId} {n : Nat} {f : Nat → Int64} (ha : ws[q0]? = some (a, .inl (cA, n, .inr (.inl f)))) (ht : tys[t0]? = some (cA, .long)) {i : Int32} {j : Nat} (hi : i = nI j) (hj : j < n) (hn : n < 2147483648) (hdg : decode cc pc = .ok (.laload, 1))
    (kk : W p l e R s m args below meth c H locs cells slots Q (F0 m (pc + 1) ls (.long (f j) :: rest))) : W p l e R s m args below meth c H locs cells slots Q (F0 m pc ls (.int i :: .ref a :: rest)) :=
  va_lald hx hb hK hP q0 t0 ha ht (ix_in hi hj hn) hdg (by rw [ix_cl hi hj hn]; exact kk)
theorem gQald (hx : p.tables.exec = Jvm.exec) (hb : c.code = cc) (hK : va_K D cl tys s) (hP : va_P D cl ws H) (q0 t0 : Nat) {cA : ClassId} {C : String} {n : Nat} {f : Nat → Option Nat} (ha : ws[q0]? = some (a, .inl (cA, n, .inr (.inr (.inr (.inr f)))))) (ht : tys[t0]? = some (cA, .object C)) {i : Int32} {j : Nat} {v : Value} (hi : i = nI j) (hj : j < n) (hn : n < 2147483648) (hv : va_rf (f j) = v) (hdg : decode cc pc = .ok (.aaload, 1))
    (kk : W p l e R s m args below meth c H locs cells slots Q (F0 m (pc + 1) ls (v :: rest))) : W p l e R s m args below meth c H locs cells slots Q (F0 m pc ls (.int i :: .ref a :: rest)) :=
  va_aldq hx hb hK hP q0 t0 ha ht (ix_in hi hj hn) hdg (by rw [ix_cl hi hj hn, hv]; exact kk)
theorem gIast (hx : p.tables.exec = Jvm.exec) (hb : c.code = cc) (hK : va_K D cl tys s) (hP : va_P D cl ws H) (hD : va_D A ws) (hS : va_S A H0 H locs) (q0 t0 : Nat) {cA : ClassId} {n : Nat} {f f' : Nat → Int32} (ha : ws[q0]? = some (a, .inl (cA, n, .inl f))) (ht : tys[t0]? = some (cA, .int)) {i x : Int32} {j : Nat} (hi : i = nI j) (hj : j < n) (hn : n < 2147483648) (hf : upd f j x = f') (hdg : decode cc pc = .ok (.iastore, 1))
    (kk : ∀ (H1 : Heap) (locs1 : List Loc), va_P D cl (ws.set q0 (a, .inl (cA, n, .inl f'))) H1 → va_D A (ws.set q0 (a, .inl (cA, n, .inl f'))) → va_S A H0 H1 locs1 → W p l e R s m args below meth c H1 locs1 cells slots Q (F0 m (pc + 1) ls rest)) : W p l e R s m args below meth c H locs cells slots Q (F0 m pc ls (.int x :: .int i :: .ref a :: rest)) :=
  va_iast hx hb hK hP hD hS q0 t0 ha ht (ix_in hi hj hn) hdg (by rw [ix_cl hi hj hn, hf]; exact kk)
theorem gZast (hx : p.tables.exec = Jvm.exec) (hb : c.code = cc) (hK : va_K D cl tys s) (hP : va_P D cl ws H) (hD : va_D A ws) (hS : va_S A H0 H locs) (q0 t0 : Nat) {cA : ClassId} {n : Nat} {f f' : Nat → Int32} (ha : ws[q0]? = some (a, .inl (cA, n, .inl f))) (ht : tys[t0]? = some (cA, .boolean)) {i x : Int32} {j : Nat} (hi : i = nI j) (hj : j < n) (hn : n < 2147483648) (hf : upd f j (vp_nar .boolean x) = f') (hdg : decode cc pc = .ok (.bastore, 1))
    (kk : ∀ (H1 : Heap) (locs1 : List Loc), va_P D cl (ws.set q0 (a, .inl (cA, n, .inl f'))) H1 → va_D A (ws.set q0 (a, .inl (cA, n, .inl f'))) → va_S A H0 H1 locs1 → W p l e R s m args below meth c H1 locs1 cells slots Q (F0 m (pc + 1) ls rest)) : W p l e R s m args below meth c H locs cells slots Q (F0 m pc ls (.int x :: .int i :: .ref a :: rest)) :=
  va_zast hx hb hK hP hD hS q0 t0 ha ht (ix_in hi hj hn) hdg (by rw [ix_cl hi hj hn, hf]; exact kk)
theorem gCast (hx : p.tables.exec = Jvm.exec) (hb : c.code = cc) (hK : va_K D cl tys s) (hP : va_P D cl ws H) (hD : va_D A ws) (hS : va_S A H0 H locs) (q0 t0 : Nat) {cA : ClassId} {n : Nat} {f f' : Nat → Int32} (ha : ws[q0]? = some (a, .inl (cA, n, .inl f))) (ht : tys[t0]? = some (cA, .char)) {i x : Int32} {j : Nat} (hi : i = nI j) (hj : j < n) (hn : n < 2147483648) (hf : upd f j (vp_nar .char x) = f') (hdg : decode cc pc = .ok (.castore, 1))
    (kk : ∀ (H1 : Heap) (locs1 : List Loc), va_P D cl (ws.set q0 (a, .inl (cA, n, .inl f'))) H1 → va_D A (ws.set q0 (a, .inl (cA, n, .inl f'))) → va_S A H0 H1 locs1 → W p l e R s m args below meth c H1 locs1 cells slots Q (F0 m (pc + 1) ls rest)) : W p l e R s m args below meth c H locs cells slots Q (F0 m pc ls (.int x :: .int i :: .ref a :: rest)) :=
  va_cast hx hb hK hP hD hS q0 t0 ha ht (ix_in hi hj hn) hdg (by rw [ix_cl hi hj hn, hf]; exact kk)
theorem gLast (hx : p.tables.exec = Jvm.exec) (hb : c.code = cc) (hK : va_K D cl tys s) (hP : va_P D cl ws H) (hD : va_D A ws) (hS : va_S A H0 H locs) (q0 t0 : Nat) {cA : ClassId} {n : Nat} {f f' : Nat → Int64} (ha : ws[q0]? = some (a, .inl (cA, n, .inr (.inl f)))) (ht : tys[t0]? = some (cA, .long)) {i : Int32} {x : Int64} {j : Nat} (hi : i = nI j) (hj : j < n) (hn : n < 2147483648) (hf : vp_updL f j x = f') (hdg : decode cc pc = .ok (.lastore, 1))
    (kk : ∀ (H1 : Heap) (locs1 : List Loc), va_P D cl (ws.set q0 (a, .inl (cA, n, .inr (.inl f')))) H1 → va_D A (ws.set q0 (a, .inl (cA, n, .inr (.inl f')))) → va_S A H0 H1 locs1 → W p l e R s m args below meth c H1 locs1 cells slots Q (F0 m (pc + 1) ls rest)) : W p l e R s m args below meth c H locs cells slots Q (F0 m pc ls (.long x :: .int i :: .ref a :: rest)) :=
  va_last hx hb hK hP hD hS q0 t0 ha ht (ix_in hi hj hn) hdg (by rw [ix_cl hi hj hn, hf]; exact kk)
/-- two arrays that hold the same as far as they go are one -/
theorem cellE {cA : ClassId} {n : Nat} {f g : Nat → Int32} (h : ∀ j, j < n → f j = g j) : vp_cell cA (n, .inl f) = vp_cell cA (n, .inl g) := by
  have e : (fun j => if j < n then f j else 0) = (fun j => if j < n then g j else 0) := by
    funext j
    by_cases hj : j < n
    · rw [if_pos hj, if_pos hj, h j hj]
    · rw [if_neg hj, if_neg hj]
  have key : ∀ f : Nat → Int32, vp_cell cA (n, .inl f) = vp_cell cA (n, .inl (fun j => if j < n then f j else 0)) := by
    intro f
    apply congrArg (fun z : Array Value => ({ cls := cA, slots := z, vm := .none } : Cell))
    apply Array.ext
    · simp
    · intro i h1 h2
      have : i < n := by simpa using h1
      simp [this]
  rw [key f, key g, e]
theorem gRow {ws : va_W} (hP : va_P D cl ws H) (hD : va_D A ws) (q0 : Nat) {cA : ClassId} {n : Nat} {f g : Nat → Int32} (ha : ws[q0]? = some (a, .inl (cA, n, .inl f))) (h : ∀ j, j < n → f j = g j) : va_P D cl (ws.set q0 (a, .inl (cA, n, .inl g))) H ∧ va_D A (ws.set q0 (a, .inl (cA, n, .inl g))) := by
  refine ⟨hP.set hD ha ?_ (fun q _ => rfl), hD.set ha⟩
  have h1 := hP q0 _ ha
  show H[a]? = some (vp_cell cA (n, .inl g))
  rw [← cellE h]
  exact h1
/-- a whole copy of an int array into another of its length -/
theorem gCopy {k : Nat} (hx : p.tables.exec = Jvm.exec) (hb : c.code = cc) (hml : c.maxLocals = ls.size) {own : String} {index : Nat} (hown : s.vm.findClass own = some m.cls) (hlink : (Cond.methodLink own index arraycopyName).before args s = true) (hnat : (Cond.native arraycopyName).before args s = true) (hstat : (Cond.static arraycopyName).before args s = true) (hini : (Cond.initialized "java/lang/System").before args s = true)
    (hK : va_K D cl tys s) (hP : va_P D cl ws H) (hD : va_D A ws) (hS : va_S A H0 H locs) (q0 q1 : Nat) {t0 : Nat} {a0 : Nat} {c0 : ClassId} {f g : Nat → Int32} (ha0 : ws[q0]? = some (a0, .inl (c0, k, .inl f))) (ha1 : ws[q1]? = some (a, .inl (c0, k, .inl g))) (ht0 : tys[t0]? = some (c0, .int)) (hk1 : ¬ nI k < 0) (hk2 : (nI k).toNatClampNeg = k)
    (hframes : 1 ≤ R.frames) (hlocals : (rest.map fun v => v.category).sum + (nativeFrameWords "java/lang/System" "arraycopy" 5 + 11) ≤ R.locals) (hdg : decode cc pc = .ok (.invokestatic index, 3))
    (kk : ∀ (H1 : Heap) (locs1 : List Loc), va_P D cl (ws.set q1 (a, .inl (c0, k, .inl f))) H1 → va_D A (ws.set q1 (a, .inl (c0, k, .inl f))) → va_S A H0 H1 locs1 → W p l e R s m args below meth c H1 locs1 cells slots Q (F0 m (pc + 3) ls rest)) : W p l e R s m args below meth c H locs cells slots Q (F0 m pc ls (.int (nI k) :: .int (nI 0) :: .ref a :: .int (nI 0) :: .ref a0 :: rest)) := by
  have z0 : (nI 0).toNatClampNeg = 0 := by decide
  refine va_copyi hx hb hml hown hlink hnat hstat hini hK hP hD hS q0 q1 t0 t0 ha0 ha1 ht0 ht0 rfl (by decide) (by decide) hk1 (by rw [z0, hk2]; omega) (by rw [z0, hk2]; omega) (fun i _ => rfl) hframes hlocals hdg (fun H1 locs1 hP1 hD1 hS1 => ?_)
  rw [z0, hk2] at hP1 hD1
  have hlt : q1 < ws.length := (List.getElem?_eq_some_iff.mp ha1).1
  obtain ⟨h1, h2⟩ := gRow hP1 hD1 q1 (a := a) (cA := c0) (n := k) (f := va_cpy f g 0 0 k) (g := f) (by rw [List.getElem?_set_self hlt]) (fun j hj => by
    rw [pk_cpy_in (Nat.zero_le _) (by omega)]; simp)
  rw [List.set_set] at h1 h2
  exact kk H1 locs1 h1 h2 hS1
end MYR
