/-! ===== the script, and what every step of the law stands on ===== -/
def LK (p : Program) (l : Launch) (s : State) (m : MethodId) (meth : Method) (c : Code) (bq L : Nat) (xs : Nat → Int32) (G : GT) : Prop :=
  p.tables.exec = Jvm.exec ∧ c.code = cL_law ∧ c.maxLocals = 10 ∧ s.vm.findClass RL = some m.cls ∧ (∀ w ∈ wsL_law, w.before #[Value.ref bq] s = true) ∧ va_X bq L xs s s.heap ∧ bq < s.heap.size ∧ CX G s ∧ gB G = s.heap.size ∧ l.stackTraces = false ∧ L ≤ 260
def pcS (G : GT) (av : List Value) (H0 : Heap) (b L : Nat) (xs : Nat → Int32) : Array Value → State → Prop := va_Pc av (fun U => U.heap = H0 ∧ CT G U ∧ va_X b L xs U H0)
theorem pcS_blind (G : GT) (av : List Value) (H0 : Heap) (b L : Nat) (xs : Nat → Int32) : FrameBlind (pcS G av H0 b L xs) := fun a U g mk q => ⟨q.1, q.2.1, q.2.2.1.blind g mk a, va_X.moved (u := U) (U := U.calling g mk a) (Vm.Alike.refl U.vm) q.2.2.2⟩
theorem preSS {G : GT} {s : State} {A : Nat → Prop} {H : Heap} {locs : List Loc} {As : List Value} {b L : Nat} {xs : Nat → Int32} (h : CT G s) (hS : va_S A s.heap H locs) (hA : ∀ q, A q → lo G q) (hX : va_X b L xs s s.heap) (hbl : b < s.heap.size) (hbA : ¬ A b) : PreS s H (pcS G As H b L xs) As :=
  ⟨pcS_blind G As H b L xs, fun U hU hW => ⟨rfl, hU, h.at hS hA hU hW, va_X.moved hW.alike (hX.kept (hS.2.1 b hbl hbA))⟩⟩
theorem enterS {G : GT} {l : Launch} {y : MethodName} {ws ws' : List Cond} {rm : Room} {as : List Value} {H0 : Heap} {b L : Nat} {xs : Nat → Int32} {Qc : Array Value → State → Outcome → State → Prop} {mc ms : Nat} {free : Addr → Prop} {cc : ByteArray} {maxL : Nat} {ret : Option FieldType} {own : String} {lv : List (Nat × Value)}
    (hy : plainName y.cls = true) (hw : ws = Cond.code y cc maxL ret :: ws') (ho : y.cls = own) (hlv : lv_args 0 as = lv) (hn : (lg_sl as).length ≤ maxL)
    (body : ∀ (p : Program) (e : Env) (s : State) (m : MethodId) (below : List Frame) (meth : Method) (c : Code), p.tables.exec = Jvm.exec → c.code = cc → meth.sig.returnType = ret → s.vm.findClass own = some m.cls → meth.locks = false → c.maxLocals = maxL → s.heap = H0 → CT G s → va_X b L xs s H0 → ∀ ls : Array Slot, lv_has ls maxL lv → W p l e rm s m as.toArray below meth c s.heap [] 0 0 (MQ below Qc as.toArray s mc ms free) (F0 m 0 ls [])) : Met l y ws rm (pcS G as H0 b L xs) Qc mc ms free := by
  refine Met.ofW (cc := cc) (maxL := maxL) (ret := ret) hy hw ?_
  intro p e s m args below meth c s₁ B hml hv
  obtain ⟨rfl, hH, hC, hX⟩ := hv
  subst ho
  have hl := lv_entry as hn
  rw [hlv] at hl
  rw [lg_entry_eq]
  exact body p e s m below meth c B.exec B.bytes B.returns (findClass_of_methodNamed B.named) B.notSynchronized hml hH hC hX _ hl
def clI (L : Nat) (xs : Nat → Int32) (k : Nat) : Int32 := if k < L then xs k else nI (7919 * (k + 7) * (k + 1483))
theorem c_L_cell {l : Launch} {G : GT} {H0 : Heap} (bq L : Nat) (xs : Nat → Int32) (k : Nat) (hk : k < 1000) (hL : L ≤ 260) (hbl : bq < H0.size) : Met l yL_cell wsL_cell ({ frames := 0, cells := 0, slots := 0, locals := 0 } : Room) (pcS G [.ref bq, .int (nI k)] H0 bq L xs) (qPi (clI L xs k) H0) 0 0 noF := by
  refine enterS (cc := cL_cell) (maxL := 2) (ret := some .int) (own := RL) (lv := [(0, .ref bq), (1, .int (nI k))]) (by decide) rfl rfl rfl (Nat.le_of_ble_eq_true rfl) ?_
  intro pg ev s m below meth c hx hb hr hown hlocks hml hH hC hX ls hl
  subst hH
  have hS : va_S noF s.heap s.heap [] := va_S.rf
  generalize ([] : List Loc) = locs at hS ⊢
  refine lv_iload_n hx hb dL_cell_0 rfl (lv_at hl 1 rfl) ?_
  refine lv_aload_n hx hb dL_cell_1 rfl (lv_at hl 0 rfl) ?_
  refine va_slen hx hb hX hbl (fun h => h) hS dL_cell_2 ?_
  refine lv_icmp_ge (tgt := 12) hx hb dL_cell_3 (by decide) (fun c1 => ?_) (fun c1 => ?_)
  · have f1 : (L : Int) ≤ (k : Int) := (c_le (nI_toInt (n := L) (by omega)) (nI_toInt (n := k) (by omega))).mp c1
    refine lv_sipush (v := nI 7919) hx hb dL_cell_12 (by decide) ?_
    refine lv_iload_n hx hb dL_cell_15 rfl (lv_at hl 1 rfl) ?_
    refine lv_bipush (v := nI 7) hx hb dL_cell_16 (by decide) ?_
    refine gAdd (z := nI (k + 7)) hx hb dL_cell_18 (nI_add _ _) ?_
    refine gMul (z := nI (7919 * (k + 7))) hx hb dL_cell_19 (pk_mul _ _) ?_
    refine lv_iload_n hx hb dL_cell_20 rfl (lv_at hl 1 rfl) ?_
    refine lv_sipush (v := nI 1483) hx hb dL_cell_21 (by decide) ?_
    refine gAdd (z := nI (k + 1483)) hx hb dL_cell_24 (nI_add _ _) ?_
    refine gMul (z := nI (7919 * (k + 7) * (k + 1483))) hx hb dL_cell_25 (pk_mul _ _) ?_
    exact xPi hx hb hr hlocks hS (if_neg (by omega)).symm (by exact rfl) dL_cell_26
  · have f1 : ¬ (L : Int) ≤ (k : Int) := fun z => c1 ((c_le (nI_toInt (n := L) (by omega)) (nI_toInt (n := k) (by omega))).mpr z)
    refine lv_aload_n hx hb dL_cell_6 rfl (lv_at hl 0 rfl) ?_
    refine lv_iload_n hx hb dL_cell_7 rfl (lv_at hl 1 rfl) ?_
    refine va_sld hx hb hX hbl (fun h => h) hS (vp_in_nI (by omega) (by omega)) dL_cell_8 ?_
    rw [nI_clamp (by omega)]
    refine lv_goto (tgt := 26) hx hb dL_cell_9 (by decide) ?_
    exact xPi hx hb hr hlocks hS (if_pos (by omega)).symm (by exact rfl) dL_cell_26
/-- a block out of a cell -/
theorem and31 (n : Nat) (hn : n < 2 ^ 32) : nI n &&& nI 2147483647 = nI (n % 2147483648) := by
  apply Int32.toBitVec_inj.mp
  rw [Int32.toBitVec_and]
  show BitVec.ofNat 32 n &&& BitVec.ofNat 32 2147483647 = BitVec.ofNat 32 (n % 2147483648)
  apply BitVec.eq_of_toNat_eq
  rw [BitVec.toNat_and, BitVec.toNat_ofNat, BitVec.toNat_ofNat, BitVec.toNat_ofNat, Nat.mod_eq_of_lt hn, Nat.mod_eq_of_lt (show 2147483647 < 2 ^ 32 by decide), Nat.mod_eq_of_lt (show n % 2147483648 < 2 ^ 32 by omega), show (2147483647 : Nat) = 2 ^ 31 - 1 from rfl, Nat.and_two_pow_sub_one_eq_mod]
theorem low_4 (x : Int32) : ∃ k : Nat, k < 4 ∧ lowI x 4 = nI k := by
  obtain ⟨n, hn, rfl⟩ := wb_of32 x
  refine ⟨n % 2147483648 % 4, by omega, ?_⟩
  have e1 : (2147483647 : Int32) = nI 2147483647 := rfl
  unfold lowI
  rw [e1, and31 n hn]
  exact pk_rem (by omega) (by omega) (by omega)
