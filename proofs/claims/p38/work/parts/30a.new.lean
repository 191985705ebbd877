/-! ===== objects made ===== -/
abbrev qNv {S : Type} (G : GT) (post : S → Prop) (w1 : S → va_W) (ws : va_W) (H0 : Heap) : Array Value → State → Outcome → State → Prop := va_Qv post (fun u t => PP G (w1 u) t.heap ∧ va_D (va_A ws H0.size) (w1 u)) (va_A ws H0.size)
def CI (G : GT) (U : State) : Prop := CT G U ∧ va_AO RX7 U
def pcI (G : GT) (av : List Value) (H0 : Heap) : Array Value → State → Prop := va_Pc av (fun U => U.heap = H0 ∧ CI G U)
theorem pcI_blind (G : GT) (av : List Value) (H0 : Heap) : FrameBlind (pcI G av H0) := fun a U g mk q => ⟨q.1, q.2.1, q.2.2.1.blind g mk a, va_AO.moved (u := U) (U := U.calling g mk a) (Vm.Alike.refl U.vm) q.2.2.2⟩
theorem CI.at {G : GT} {s U : State} {A : Nat → Prop} {H : Heap} {locs : List Loc} (h : CI G s) (hS : va_S A s.heap H locs) (hA : ∀ q, A q → lo G q) (hU : U.heap = H) (hW : s.WarmedH U.vm) : CI G U := ⟨h.1.at hS hA hU hW, va_AO.moved hW.alike h.2⟩
theorem preSI {G : GT} {s : State} {A : Nat → Prop} {H : Heap} {locs : List Loc} {As : List Value} (h : CI G s) (hS : va_S A s.heap H locs) (hA : ∀ q, A q → lo G q) : PreS s H (pcI G As H) As :=
  ⟨pcI_blind G As H, fun U hU hW => ⟨rfl, hU, h.at hS hA hU hW⟩⟩
theorem enterI {G : GT} {l : Launch} {y : MethodName} {ws ws' : List Cond} {rm : Room} {as : List Value} {H0 : Heap} {Qc : Array Value → State → Outcome → State → Prop} {mc ms : Nat} {free : Addr → Prop} {cc : ByteArray} {maxL : Nat} {ret : Option FieldType} {own : String} {lv : List (Nat × Value)}
    (hy : plainName y.cls = true) (hw : ws = Cond.code y cc maxL ret :: ws') (ho : y.cls = own) (hlv : lv_args 0 as = lv) (hn : (lg_sl as).length ≤ maxL)
    (body : ∀ (p : Program) (e : Env) (s : State) (m : MethodId) (below : List Frame) (meth : Method) (c : Code), p.tables.exec = Jvm.exec → c.code = cc → meth.sig.returnType = ret → (∀ w ∈ ws, w.before as.toArray s = true) → s.vm.findClass own = some m.cls → meth.locks = false → c.maxLocals = maxL → meth.name = y.name → s.heap = H0 → CI G s → ∀ ls : Array Slot, lv_has ls maxL lv → W p l e rm s m as.toArray below meth c s.heap [] 0 0 (MQ below Qc as.toArray s mc ms free) (F0 m 0 ls [])) : Met l y ws rm (pcI G as H0) Qc mc ms free := by
  refine Met.ofW (cc := cc) (maxL := maxL) (ret := ret) hy hw ?_
  intro p e s m args below meth c s₁ B hml hv
  obtain ⟨rfl, hH, hC⟩ := hv
  subst ho
  have hl := lv_entry as hn
  rw [hlv] at hl
  rw [lg_entry_eq]
  exact body p e s m below meth c B.exec B.bytes B.returns (atoms_spec (ws := ws) B.pre) (findClass_of_methodNamed B.named) B.notSynchronized hml (name_of_methodNamed B.named B.method).1 hH hC _ hl
theorem arr_same {D : va_G} {cl : List vw_C} {tys : List (ClassId × FieldType)} {s : State} {c1 c2 : ClassId} {ty : FieldType} (hK : va_K D cl tys s) (i j : Nat) (hi : tys[i]? = some (c1, ty)) (hj : tys[j]? = some (c2, ty)) : c1 = c2 := by
  have h1 : va_RA s c1 ty := (hK.2 i _ hi).2
  have h2 : va_RA s c2 ty := (hK.2 j _ hj).2
  cases ty with
  | object C =>
    obtain ⟨_, _, _, _, _, e1⟩ := h1
    obtain ⟨_, _, _, _, _, e2⟩ := h2
    exact Option.some.inj (e1.symm.trans e2)
  | _ => exact Option.some.inj ((show s.vm.findClass _ = some c1 from h1).symm.trans (show s.vm.findClass _ = some c2 from h2))
theorem cellQ {cA : ClassId} {n : Nat} {f g : Nat → Option Nat} (h : ∀ j, j < n → f j = g j) : vp_cell cA (n, .inr (.inr (.inr (.inr f)))) = vp_cell cA (n, .inr (.inr (.inr (.inr g)))) := by
  have e : (fun j => if j < n then f j else none) = (fun j => if j < n then g j else none) := by
    funext j
    by_cases hj : j < n
    · rw [if_pos hj, if_pos hj, h j hj]
    · rw [if_neg hj, if_neg hj]
  have key : ∀ f : Nat → Option Nat, vp_cell cA (n, .inr (.inr (.inr (.inr f)))) = vp_cell cA (n, .inr (.inr (.inr (.inr (fun j => if j < n then f j else none))))) := by
    intro f
    apply congrArg (fun z : Array Value => ({ cls := cA, slots := z, vm := .none } : Cell))
    apply Array.ext
    · simp
    · intro i h1 h2
      have : i < n := by simpa using h1
      simp [this]
  rw [key f, key g, e]
theorem gRowQ {G : GT} {H : Heap} {A : Nat → Prop} {ws : va_W} (hP : PP G ws H) (hD : va_D A ws) (q0 : Nat) {a : Nat} {cA : ClassId} {n : Nat} {f g : Nat → Option Nat} (ha : ws[q0]? = some (a, .inl (cA, n, .inr (.inr (.inr (.inr f)))))) (h : ∀ j, j < n → f j = g j) : PP G (ws.set q0 (a, .inl (cA, n, .inr (.inr (.inr (.inr g)))))) H ∧ va_D A (ws.set q0 (a, .inl (cA, n, .inr (.inr (.inr (.inr g)))))) := by
  refine ⟨va_P.set hP hD ha ?_ (fun q _ => rfl), hD.set ha⟩
  have h1 := hP q0 _ ha
  show H[a]? = some (vp_cell cA (n, .inr (.inr (.inr (.inr g)))))
  rw [← cellQ h]
  exact h1
section MYN
variable {p : Program} {l : Launch} {e : Env} {R : Room} {s : State} {m : MethodId} {args : Array Value} {below : List Frame} {meth : Method} {c : Code} {H : Heap} {locs : List Loc} {cells slots : Nat} {Q : State → Prop}
variable {cc : ByteArray} {pc : Nat} {ls : Array Slot} {rest st0 : List Value} {a : Array Value} {A A0 : Nat → Prop} {H0 : Heap} {mc ms : Nat} {G : GT} {ws : va_W}
theorem gNewA {atype : ArrayType} {ty : FieldType} {t0 : Nat} {cX : ClassId} {n : Int32} {N' : Nat} {a0 : vp_A} (hx : p.tables.exec = Jvm.exec) (hb : c.code = cc) (harr : (Cond.arrayClass (newarray.typeOf atype)).before args s = true) (hty : newarray.typeOf atype = ty) (ht0 : (tyl G)[t0]? = some (cX, ty)) (hK : va_K (gD G) vwCl (tyl G) s) (hP : PP G ws H) (hD : va_D A ws) (hS : va_S A H0 H locs) (hA : ∀ q, H0.size ≤ q → A q)
    (ha : ∀ cA : ClassId, vp_cell cA a0 = arrV cA N' (fun _ => defaultValue ty)) (hn : ¬ n < 0) (hN : n.toNatClampNeg = N') (hbytes : N' * componentBytes ty ≤ 536870912) (hcells : cells + 1 ≤ R.cells) (hslots : slots + N' ≤ R.slots) (hdg : decode cc pc = .ok (.newarray atype, 2))
    (kk : ∀ (q : Nat) (H1 : Heap), PP G (ws ++ [(q, .inl (cX, a0))]) H1 → va_D A (ws ++ [(q, .inl (cX, a0))]) → va_S A H0 H1 locs → W p l e R s m args below meth c H1 locs (cells + 1) (slots + N') Q (F0 m (pc + 2) ls (.ref q :: rest))) : W p l e R s m args below meth c H locs cells slots Q (F0 m pc ls (.int n :: rest)) := by
  refine va_newa hx hb harr hty hK hP hD hS hA ha hn hN hbytes hcells hslots hdg (fun q cA H1 hK1 hP1 hD1 hS1 => ?_)
  have e : cX = cA := arr_same hK1 t0 5 (by rw [List.getElem?_append_left (List.getElem?_eq_some_iff.mp ht0).1]; exact ht0) rfl
  rw [← e] at hP1 hD1
  exact kk q H1 hP1 hD1 hS1
theorem gNewQ {own : String} {index N : Nat} {n : Int32} (hx : p.tables.exec = Jvm.exec) (hb : c.code = cc) (hown : s.vm.findClass own = some m.cls) (hclink : (Cond.classLink own index RX7).before args s = true) (hover : va_AO RX7 s) (hK : va_K (gD G) vwCl (tyl G) s) (hP : PP G ws H) (hD : va_D A ws) (hS : va_S A H0 H locs) (hA : ∀ q, H0.size ≤ q → A q)
    (hn : ¬ n < 0) (hN : n.toNatClampNeg = N) (hbytes : N * 4 ≤ 536870912) (hcells : cells + 1 ≤ R.cells) (hslots : slots + N ≤ R.slots) (hdg : decode cc pc = .ok (.anewarray index, 3))
    (kk : ∀ (q : Nat) (H1 : Heap), PP G (ws ++ [(q, .inl (cO G, N, .inr (.inr (.inr (.inr (fun _ => none))))))]) H1 → va_D A (ws ++ [(q, .inl (cO G, N, .inr (.inr (.inr (.inr (fun _ => none))))))]) → va_S A H0 H1 locs → W p l e R s m args below meth c H1 locs (cells + 1) (slots + N) Q (F0 m (pc + 3) ls (.ref q :: rest))) : W p l e R s m args below meth c H locs cells slots Q (F0 m pc ls (.int n :: rest)) := by
  refine va_newq hx hb hown hclink hover hK hP hD hS hA hn hN hbytes hcells hslots hdg (fun q cA H1 hK1 hP1 hD1 hS1 => ?_)
  have e : cO G = cA := arr_same hK1 3 5 rfl rfl
  rw [← e] at hP1 hD1
  exact kk q H1 hP1 hD1 hS1
/-- a constructor called on the cell made last -/
theorem kNewV {S : Type} {post : S → Prop} {w1 : S → va_W} {X : va_W} {q : Nat} {e9 : va_E} (hr : va_Run p l e R s m args below meth c H locs cells slots mc ms (F0 m pc ls st0) rest (qNv G post w1 [(q, e9)] H a) (va_A [(q, e9)] H.size)) (hP : PP G (X ++ [(q, e9)]) H) (hD : va_D A0 (X ++ [(q, e9)])) (hS : va_S A0 H0 H locs) (hA : ∀ q, H0.size ≤ q → A0 q)
    (kk : ∀ (u : S) (H1 : Heap) (locs1 : List Loc), post u → PP G (X ++ w1 u) H1 → va_D A0 (X ++ w1 u) → va_S A0 H0 H1 locs1 → W p l e R s m args below meth c H1 locs1 (cells + mc) (slots + ms) Q (F0 m (pc + 3) ls rest)) : W p l e R s m args below meth c H locs cells slots Q (F0 m pc ls st0) := by
  have hq : A0 q := by
    obtain ⟨k, hk⟩ := List.mem_iff_getElem?.mp (show (q, e9) ∈ X ++ [(q, e9)] from List.mem_append_right _ List.mem_cons_self)
    exact hD.2 k _ hk
  have hF : ∀ z, va_A [(q, e9)] H.size z → A0 z := by
    rintro z (⟨k, e8, he⟩ | hz)
    · have h1 := List.mem_of_getElem? he
      simp only [List.mem_cons, List.not_mem_nil, or_false] at h1
      cases h1; exact hq
    · exact hA z (Nat.le_trans hS.1 hz)
  have hN := va_D_nodup hD
  rw [List.map_append, List.nodup_append] at hN
  obtain ⟨n1, n2, n3⟩ := hN
  have hne : ∀ x ∈ X, x.1 ≠ q := fun x hx => n3 x.1 (List.mem_map_of_mem hx) q (by simp)
  have hlt : ∀ x ∈ X, x.1 < H.size := fun x hx => (va_P_mem.mp hP x (List.mem_append_left _ hx)).lt
  have hnA : ∀ x ∈ X, ¬ va_A [(q, e9)] H.size x.1 := by
    rintro x hx (⟨k, e8, he⟩ | hz)
    · have h1 := List.mem_of_getElem? he
      simp only [List.mem_cons, List.not_mem_nil, or_false] at h1
      exact hne x hx (congrArg Prod.fst h1)
    · exact absurd (hlt x hx) (Nat.not_lt.mpr hz)
  refine va_callv hr hS (fun z _ h => hF z h) hF (fun u t H1 locs1 ht _ hp hB _ hk hS1 => ?_)
  obtain ⟨hB1, hB2⟩ := hB
  rw [ht] at hB1
  refine kk u H1 locs1 hp ?_ ?_ hS1
  · refine PP_app (va_P_mem.mpr fun x hx => ?_) hB1
    have h3 := va_P_mem.mp hP x (List.mem_append_left _ hx)
    exact h3.kept (hk x.1 h3.lt (hnA x hx))
  · refine va_D_of ?_ (fun x hx => ?_)
    · rw [List.map_append, List.nodup_append]
      refine ⟨n1, va_D_nodup hB2, fun x hx y hy => ?_⟩
      obtain ⟨x', hx', rfl⟩ := List.mem_map.mp hx
      obtain ⟨y', hy', rfl⟩ := List.mem_map.mp hy
      obtain ⟨k, hk2⟩ := List.mem_iff_getElem?.mp hy'
      exact fun e => hnA x' hx' (e ▸ hB2.2 k _ hk2)
    · rcases List.mem_append.mp hx with h | h
      · obtain ⟨k, hk2⟩ := List.mem_iff_getElem?.mp (show x ∈ X ++ [(q, e9)] from List.mem_append_left _ h)
        exact hD.2 k _ hk2
      · obtain ⟨k, hk2⟩ := List.mem_iff_getElem?.mp h
        exact hF _ (hB2.2 k _ hk2)
theorem xNv {S : Type} {post : S → Prop} {w1 : S → va_W} (u : S) (hx : p.tables.exec = Jvm.exec) (hb : c.code = cc) (hr : meth.sig.returnType = none) (hlocks : meth.locks = false) (hP : PP G (w1 u) H) (hD : va_D A0 (w1 u)) (hS : va_S A0 s.heap H locs) (hv : post u) (hdg : decode cc pc = .ok (.return_, 1)) :
    W p l e R s m args below meth c H locs cells slots (MQ below (va_Qv post (fun u t => PP G (w1 u) t.heap ∧ va_D A0 (w1 u)) A0) args s cells slots A0) (F0 m pc ls []) :=
  W.vret hx hb hr (fun t ht _ => ⟨⟨u, rfl, hv, by show PP G (w1 u) t.heap; rw [ht]; exact hP, hD⟩, hS.F ht⟩) hS.2.2 hdg hlocks
end MYN
