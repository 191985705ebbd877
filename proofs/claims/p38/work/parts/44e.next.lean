theorem ou_fst {G : GT} {a : Nat → Nat} {v v' : SVT} {j j' : JT} {oa : Nat} {of of' : Nat → Int32} : (oW G a v j ++ ouW G oa of).map Prod.fst = (oW G a v' j' ++ ouW G oa of').map Prod.fst := by
  rw [List.map_append, List.map_append, oW_fst (v := v) (v' := v') (j := j) (j' := j')]; rfl
theorem enterNX {G : GT} {l : Launch} {y : MethodName} {ws ws' : List Cond} {rm : Room} {as : List Value} {H0 : Heap} {Qc : Array Value → State → Outcome → State → Prop} {mc ms : Nat} {free : Addr → Prop} {cc : ByteArray} {maxL : Nat} {ret : Option FieldType} {own : String} {lv : List (Nat × Value)}
    (hy : plainName y.cls = true) (hw : ws = Cond.code y cc maxL ret :: ws') (ho : y.cls = own) (hlv : lv_args 0 as = lv) (hn : (lg_sl as).length ≤ maxL)
    (body : ∀ (p : Program) (e : Env) (s : State) (m : MethodId) (below : List Frame) (meth : Method) (c : Code), p.tables.exec = Jvm.exec → c.code = cc → meth.sig.returnType = ret → (∀ w ∈ ws, w.before as.toArray s = true) → s.vm.findClass own = some m.cls → meth.locks = false → c.maxLocals = maxL → meth.name = y.name → s.heap = H0 → CX G s → ∀ ls : Array Slot, lv_has ls maxL lv → W p l e rm s m as.toArray below meth c s.heap [] 0 0 (MQ below Qc as.toArray s mc ms free) (F0 m 0 ls [])) : Met l y ws rm (pcX G as H0) Qc mc ms free := by
  refine Met.ofW (cc := cc) (maxL := maxL) (ret := ret) hy hw ?_
  intro p e s m args below meth c s₁ B hml hv
  obtain ⟨rfl, hH, hC⟩ := hv
  subst ho
  have hl := lv_entry as hn
  rw [hlv] at hl
  rw [lg_entry_eq]
  exact body p e s m below meth c B.exec B.bytes B.returns (atoms_spec (ws := ws) B.pre) (findClass_of_methodNamed B.named) B.notSynchronized hml (name_of_methodNamed B.named B.method).1 hH hC _ hl
set_option maxHeartbeats 4000000 in
set_option maxRecDepth 100000 in
theorem c_L_next_k0 {l : Launch} {G : GT} {H0 : Heap} (a : Nat → Nat) (v : SVT) (j : JT) (oa : Nat) (of : Nat → Int32) (hv : OKS v) (hpc : PIC v) (hpi : sPi v ≤ 900) (hj : OKJ j) (hkey : sPi v % sKd v = 0) (hfl : l.stackTraces = false) (hP0 : PP G (oW G a v j ++ ouW G oa of) H0) (hB0 : va_D (lo G) (oW G a v j ++ ouW G oa of)) : Met l yL_isNextSo wsL_isNextSo ({ frames := 9, cells := 1, slots := 6, locals := 168 } : Room) (pcX G [.ref (a 0), .int (nI (0)), .ref oa] H0) (qMi G (fun (r : Int32) (u : JT × (Nat → Int32)) => r = nI 1 ∧ OKJ u.1 ∧ jH u.1 = rbH (jH j) v) (fun (u : JT × (Nat → Int32)) => oW G a v u.1 ++ ouW G oa u.2) (oW G a v j ++ ouW G oa of) H0) 1 6 (va_A (oW G a v j ++ ouW G oa of) H0.size) := by
  refine enterNX (cc := cL_isNextSo) (maxL := 12) (ret := some .boolean) (own := RL) (lv := [(0, .ref (a 0)), (1, .int (nI (0))), (2, .ref oa)]) (by decide) rfl rfl rfl (Nat.le_of_ble_eq_true rfl) ?_
  intro pg ev s m below meth c hx hb hr hts hown hlocks hml hnm hH hCX ls hl
  subst hH
  have hC := hCX.1
  have hLo := va_freeB hB0 hC.2.2.2.1
  have hD := hB0.self (sz := s.heap.size)
  have hS : va_S (va_A (oW G a v j ++ ouW G oa of) s.heap.size) s.heap s.heap [] := va_S.rf
  unfold qMi
  generalize hAe : va_A (oW G a v j ++ ouW G oa of) s.heap.size = A at hD hLo hS ⊢
  have hA : ∀ q, s.heap.size ≤ q → A q := fun q h => by rw [← hAe]; exact Or.inr h
  generalize ([] : List Loc) = locs at hS ⊢
  have hP := hP0
  have hv0 := hv
  have hpc0 := hpc
  obtain ⟨hd, ht, hg, hk, hbu, hkd⟩ := hv
  obtain ⟨p1, p2, p3, p4, p5⟩ := hpc
  have hbi := BITS_in v
  have hcm := COM_in (sD v) (sT v) (sBu v)
  have hco : COAR v = -1 := if_pos hkey
  have hbk : BITS v = 264 := if_pos hkey
  have hzd : 0 ≤ sZ (fun j => ((sT v j - sG v j).natAbs : Int)) 64 ∧ sZ (fun j => ((sT v j - sG v j).natAbs : Int)) 64 ≤ 15 * ((64 : Nat) : Int) := sZ_in (fun k => by have h1 : 0 ≤ sT v k ∧ sT v k ≤ 15 := ht k; have h2 : 0 ≤ sG v k ∧ sG v k ≤ 15 := hg k; show 0 ≤ ((sT v k - sG v k).natAbs : Int) ∧ ((sT v k - sG v k).natAbs : Int) ≤ 15; omega) 64
  refine lv_aload_n hx hb dL_isNextSo_0 rfl (lv_at hl 0 rfl) ?_
  refine kPreI (va_runV (As := []) (rest := []) ⟨hx, hb, hml, hown, hts⟩ (o_coarsenessNext a v j hv0 (by omega) hj (PP_l hP) ((pre_D hD).weaken (fun _ _ _ h => hLo _ h))) (cwV 0 hts gL_isNextSo_X8_coarsenessNext rfl rfl rfl (by decide +kernel) ⟨(Nat.le_of_ble_eq_true rfl), (Nat.le_of_ble_eq_true rfl)⟩) (preV hC hS hLo (oW_obj (PP_l hP)) (ci := 7) (q0 := 0) rfl rfl) rfl rfl hl.1 rfl (lv_room (Nat.le_of_ble_eq_true rfl)) dL_isNextSo_1 ⟨(Nat.le_of_ble_eq_true rfl), (Nat.le_of_ble_eq_true rfl)⟩) hP hD hS hA (fun _ => oW_fst) (fun r_3 u_1 H locs q_2 hP hD hS => ?_)
  have hP : PP G (oW G a v u_1 ++ ouW G oa of) H := hP
  have hD : va_D A (oW G a v u_1 ++ ouW G oa of) := hD
  have hjj := q_2.2.1
  have hje := q_2.2.2
  refine topE (v' := iI (-1)) (q_2.1.trans (by rw [hco])) ?_
  refine lv_istore_n (lv' := [(3, .int (iI (-1))), (0, .ref (a 0)), (1, .int (nI (0))), (2, .ref oa)]) hx hb dL_isNextSo_4 rfl hl (by decide) rfl (fun ls hl => ?_)
  refine lv_aload_n hx hb dL_isNextSo_5 rfl (lv_at hl 1 rfl) ?_
  refine kPreI (va_runV (As := []) (rest := []) ⟨hx, hb, hml, hown, hts⟩ (o_bitsNext a v u_1 hv0 (by omega) hjj (PP_l hP) ((pre_D hD).weaken (fun _ _ _ h => hLo _ h))) (cwV 0 hts gL_isNextSo_X8_bitsNext rfl rfl rfl (by decide +kernel) ⟨(Nat.le_of_ble_eq_true rfl), (Nat.le_of_ble_eq_true rfl)⟩) (preV hC hS hLo (oW_obj (PP_l hP)) (ci := 7) (q0 := 0) rfl rfl) rfl rfl hl.1 rfl (lv_room (Nat.le_of_ble_eq_true rfl)) dL_isNextSo_6 ⟨(Nat.le_of_ble_eq_true rfl), (Nat.le_of_ble_eq_true rfl)⟩) hP hD hS hA (fun _ => oW_fst) (fun r_6 u_4 H locs q_5 hP hD hS => ?_)
  have hP : PP G (oW G a v u_4 ++ ouW G oa of) H := hP
  have hD : va_D A (oW G a v u_4 ++ ouW G oa of) := hD
  have hje := q_5.2.2.trans hje
  have hjj := q_5.2.1
  refine topE (v' := nI (BITS v)) (q_5.1) ?_
  refine lv_istore (lv' := [(4, .int (nI (BITS v))), (3, .int (iI (-1))), (0, .ref (a 0)), (1, .int (nI (0))), (2, .ref oa)]) hx hb dL_isNextSo_9 hl (by decide) rfl (fun ls hl => ?_)
  refine lv_iconst (v := nI (0)) hx hb dL_isNextSo_11 (by decide) ?_
  refine lv_istore (lv' := [(5, .int (nI (0))), (4, .int (nI (BITS v))), (3, .int (iI (-1))), (0, .ref (a 0)), (1, .int (nI (0))), (2, .ref oa)]) hx hb dL_isNextSo_12 hl (by decide) rfl (fun ls hl => ?_)
  refine lv_aload_n hx hb dL_isNextSo_14 rfl (lv_at hl 3 rfl) ?_
  refine kPi (va_runV (As := []) (rest := []) ⟨hx, hb, hml, hown, hts⟩ (c_X8_bitCount a v (oW_now (PP_l hP))) (cwV 0 hts gL_isNextSo_X8_bitCount rfl rfl rfl (by decide +kernel) ⟨(Nat.le_of_ble_eq_true rfl), (Nat.le_of_ble_eq_true rfl)⟩) (preV hC hS hLo (oW_obj (PP_l hP)) (ci := 7) (q0 := 0) rfl rfl) rfl rfl hl.1 rfl (lv_room (Nat.le_of_ble_eq_true rfl)) dL_isNextSo_15 ⟨(Nat.le_of_ble_eq_true rfl), (Nat.le_of_ble_eq_true rfl)⟩) hS (fun locs hS => ?_)
  refine topE (v' := nI (sBi v)) (rfl) ?_
  refine lv_istore (lv' := [(6, .int (nI (sBi v))), (5, .int (nI (0))), (4, .int (nI (BITS v))), (3, .int (iI (-1))), (0, .ref (a 0)), (1, .int (nI (0))), (2, .ref oa)]) hx hb dL_isNextSo_18 hl (by decide) rfl (fun ls hl => ?_)
  refine lv_aload_n hx hb dL_isNextSo_20 rfl (lv_at hl 4 rfl) ?_
  refine kPi (va_runV (As := []) (rest := []) ⟨hx, hb, hml, hown, hts⟩ (c_X8_pictureCount a v (oW_now (PP_l hP))) (cwV 0 hts gL_isNextSo_X8_pictureCount rfl rfl rfl (by decide +kernel) ⟨(Nat.le_of_ble_eq_true rfl), (Nat.le_of_ble_eq_true rfl)⟩) (preV hC hS hLo (oW_obj (PP_l hP)) (ci := 7) (q0 := 0) rfl rfl) rfl rfl hl.1 rfl (lv_room (Nat.le_of_ble_eq_true rfl)) dL_isNextSo_21 ⟨(Nat.le_of_ble_eq_true rfl), (Nat.le_of_ble_eq_true rfl)⟩) hS (fun locs hS => ?_)
  refine topE (v' := nI (sPi v)) (rfl) ?_
  refine lv_istore (lv' := [(7, .int (nI (sPi v))), (6, .int (nI (sBi v))), (5, .int (nI (0))), (4, .int (nI (BITS v))), (3, .int (iI (-1))), (0, .ref (a 0)), (1, .int (nI (0))), (2, .ref oa)]) hx hb dL_isNextSo_24 hl (by decide) rfl (fun ls hl => ?_)
  refine lv_aload_n hx hb dL_isNextSo_26 rfl (lv_at hl 5 rfl) ?_
  refine kPi (va_runV (As := []) (rest := []) ⟨hx, hb, hml, hown, hts⟩ (c_X8_drift a v hd ht hg (oW_now (PP_l hP))) (cwV 0 hts gL_isNextSo_X8_drift rfl rfl rfl (by decide +kernel) ⟨(Nat.le_of_ble_eq_true rfl), (Nat.le_of_ble_eq_true rfl)⟩) (preV hC hS hLo (oW_obj (PP_l hP)) (ci := 7) (q0 := 0) rfl rfl) rfl rfl hl.1 rfl (lv_room (Nat.le_of_ble_eq_true rfl)) dL_isNextSo_27 ⟨(Nat.le_of_ble_eq_true rfl), (Nat.le_of_ble_eq_true rfl)⟩) hS (fun locs hS => ?_)
  refine topE (v' := iI (sZ (fun j => ((sT v j - sG v j).natAbs : Int)) 64)) (rfl) ?_
  refine lv_istore (lv' := [(8, .int (iI (sZ (fun j => ((sT v j - sG v j).natAbs : Int)) 64))), (7, .int (nI (sPi v))), (6, .int (nI (sBi v))), (5, .int (nI (0))), (4, .int (nI (BITS v))), (3, .int (iI (-1))), (0, .ref (a 0)), (1, .int (nI (0))), (2, .ref oa)]) hx hb dL_isNextSo_30 hl (by decide) rfl (fun ls hl => ?_)
  refine lv_aload_n hx hb dL_isNextSo_32 rfl (lv_at hl 6 rfl) ?_
  refine kPi (va_runV (As := []) (rest := []) ⟨hx, hb, hml, hown, hts⟩ (c_X8_isKeyNext a v hkd (Nat.le_trans hpi (by decide)) (oW_now (PP_l hP))) (cwV 0 hts gL_isNextSo_X8_isKeyNext rfl rfl rfl (by decide +kernel) ⟨(Nat.le_of_ble_eq_true rfl), (Nat.le_of_ble_eq_true rfl)⟩) (preV hC hS hLo (oW_obj (PP_l hP)) (ci := 7) (q0 := 0) rfl rfl) rfl rfl hl.1 rfl (lv_room (Nat.le_of_ble_eq_true rfl)) dL_isNextSo_33 ⟨(Nat.le_of_ble_eq_true rfl), (Nat.le_of_ble_eq_true rfl)⟩) hS (fun locs hS => ?_)
  refine topE (v' := nI (1)) (bI_t hkey) ?_
  refine lv_istore (lv' := [(9, .int (nI (1))), (8, .int (iI (sZ (fun j => ((sT v j - sG v j).natAbs : Int)) 64))), (7, .int (nI (sPi v))), (6, .int (nI (sBi v))), (5, .int (nI (0))), (4, .int (nI (BITS v))), (3, .int (iI (-1))), (0, .ref (a 0)), (1, .int (nI (0))), (2, .ref oa)]) hx hb dL_isNextSo_36 hl (by decide) rfl (fun ls hl => ?_)
  refine lv_iconst (v := nI (0)) hx hb dL_isNextSo_38 (by decide) ?_
  refine lv_istore (lv' := [(10, .int (nI (0))), (9, .int (nI (1))), (8, .int (iI (sZ (fun j => ((sT v j - sG v j).natAbs : Int)) 64))), (7, .int (nI (sPi v))), (6, .int (nI (sBi v))), (5, .int (nI (0))), (4, .int (nI (BITS v))), (3, .int (iI (-1))), (0, .ref (a 0)), (1, .int (nI (0))), (2, .ref oa)]) hx hb dL_isNextSo_39 hl (by decide) rfl (fun ls hl => ?_)
  have L_41 : ∀ (n_41 : Nat) (i : Nat), 4 - i < n_41 → (i ≤ 4) → ∀ (locs : List Loc) (ls : Array Slot), va_S A s.heap H locs → lv_has ls 12 [(0, .ref (a 0)), (1, .int (nI (0))), (2, .ref oa), (3, .int (iI (-1))), (4, .int (nI (BITS v))), (5, .int (nI (66 * i))), (6, .int (nI (sBi v))), (7, .int (nI (sPi v))), (8, .int (iI (sZ (fun j => ((sT v j - sG v j).natAbs : Int)) 64))), (9, .int (nI (1))), (10, .int (nI (i)))] → W pg l ev ({ frames := 9, cells := 1, slots := 6, locals := 168 } : Room) s m (([.ref (a 0), .int (nI (0)), .ref oa] : List Value).toArray) below meth c H locs 0 0 (MQ below (va_Qi (fun (r : Int32) (u : JT × (Nat → Int32)) => r = nI 1 ∧ OKJ u.1 ∧ jH u.1 = rbH (jH j) v) (fun (u : JT × (Nat → Int32)) t9 => PP G (oW G a v u.1 ++ ouW G oa u.2) t9.heap) A) (([.ref (a 0), .int (nI (0)), .ref oa] : List Value).toArray) s 1 6 A) (F0 m 41 ls []) := by
    intro n_41
    induction n_41 with
    | zero => intro i hn; exact absurd hn (Nat.not_lt_zero _)
    | succ n_41 ih_41 =>
      intro i hn_41 hi9 locs ls hS hl
      refine lv_iload hx hb dL_isNextSo_41 (lv_at hl 10 rfl) ?_
      refine lv_iconst (v := nI (4)) hx hb dL_isNextSo_43 (by decide) ?_
      refine lv_icmp_ge (tgt := 75) hx hb dL_isNextSo_44 (by decide) (fun c_7 => ?_) (fun c_7 => ?_)
      · have f_8 : (4 : Int) ≤ ((i : Nat) : Int) := (c_le (nI_toInt (n := 4) (by omega)) (nI_toInt (n := i) (by omega))).mp c_7
        have e_i : i = 4 := by omega
        replace e_i := e_i.symm
        subst e_i
        refine lv_iload hx hb dL_isNextSo_75 (lv_at hl 9 rfl) ?_
        refine lv_iload_n hx hb dL_isNextSo_77 rfl (lv_at hl 3 rfl) ?_
        refine lv_iconst (v := iI (-1)) hx hb dL_isNextSo_78 (by decide) ?_
        refine lv_icmp_ne (tgt := 86) hx hb dL_isNextSo_79 (by decide) (fun c_9 => ?_) (fun c_9 => ?_)
        · have f_10 := c_9
          exact absurd rfl f_10
        · have f_11 := c_9
          refine lv_iconst (v := nI (1)) hx hb dL_isNextSo_82 (by decide) ?_
          refine lv_goto (tgt := 87) hx hb dL_isNextSo_83 (by decide) ?_
          refine lv_icmp_ne (tgt := 131) hx hb dL_isNextSo_87 (by decide) (fun c_12 => ?_) (fun c_12 => ?_)
          · have f_13 := c_12
            exact absurd rfl f_13
          · have f_14 := c_12
            refine lv_iload hx hb dL_isNextSo_90 (lv_at hl 4 rfl) ?_
            refine lv_iload hx hb dL_isNextSo_92 (lv_at hl 5 rfl) ?_
            refine lv_icmp_ne (tgt := 131) hx hb dL_isNextSo_94 (by decide) (fun c_15 => ?_) (fun c_15 => ?_)
            · have f_16 : ¬ ((BITS v : Nat) : Int) = ((66 * 4 : Nat) : Int) := fun z => c_15 ((c_eq (nI_toInt (n := BITS v) (by omega)) (nI_toInt (n := 66 * 4) (by omega))).mpr z)
              exfalso; omega
            · have f_17 : ((BITS v : Nat) : Int) = ((66 * 4 : Nat) : Int) := (c_eq (nI_toInt (n := BITS v) (by omega)) (nI_toInt (n := 66 * 4) (by omega))).mp c_15
              refine lv_iload hx hb dL_isNextSo_97 (lv_at hl 4 rfl) ?_
              refine lv_iconst (v := nI (4)) hx hb dL_isNextSo_99 (by decide) ?_
              refine lv_icmp_lt (tgt := 131) hx hb dL_isNextSo_100 (by decide) (fun c_18 => ?_) (fun c_18 => ?_)
              · have f_19 : ((BITS v : Nat) : Int) < (4 : Int) := (c_lt (nI_toInt (n := BITS v) (by omega)) (nI_toInt (n := 4) (by omega))).mp c_18
                exfalso; omega
              · have f_20 : ¬ ((BITS v : Nat) : Int) < (4 : Int) := fun z => c_18 ((c_lt (nI_toInt (n := BITS v) (by omega)) (nI_toInt (n := 4) (by omega))).mpr z)
                refine lv_iload hx hb dL_isNextSo_103 (lv_at hl 4 rfl) ?_
                refine lv_sipush (v := nI (264)) hx hb dL_isNextSo_105 (by decide) ?_
                refine lv_icmp_gt (tgt := 131) hx hb dL_isNextSo_108 (by decide) (fun c_21 => ?_) (fun c_21 => ?_)
                · have f_22 : (264 : Int) < ((BITS v : Nat) : Int) := (c_lt (nI_toInt (n := 264) (by omega)) (nI_toInt (n := BITS v) (by omega))).mp c_21
                  exfalso; omega
                · have f_23 : ¬ (264 : Int) < ((BITS v : Nat) : Int) := fun z => c_21 ((c_lt (nI_toInt (n := 264) (by omega)) (nI_toInt (n := BITS v) (by omega))).mpr z)
                  refine lv_iload hx hb dL_isNextSo_111 (lv_at hl 9 rfl) ?_
                  refine lv_if_ne (tgt := 127) hx hb dL_isNextSo_113 (by decide) (fun c_24 => ?_) (fun c_24 => ?_)
                  · have f_25 : ¬ (1 : Int) = (0 : Int) := fun z => c_24 ((c_eq (nI_toInt (n := 1) (by omega)) rfl).mpr z)
                    refine lv_iconst (v := nI (1)) hx hb dL_isNextSo_127 (by decide) ?_
                    refine lv_goto (tgt := 132) hx hb dL_isNextSo_128 (by decide) ?_
                    refine lv_istore (lv' := [(10, .int (nI (1))), (0, .ref (a 0)), (1, .int (nI (0))), (2, .ref oa), (3, .int (iI (-1))), (4, .int (nI (BITS v))), (5, .int (nI (66 * 4))), (6, .int (nI (sBi v))), (7, .int (nI (sPi v))), (8, .int (iI (sZ (fun j => ((sT v j - sG v j).natAbs : Int)) 64))), (9, .int (nI (1)))]) hx hb dL_isNextSo_132 hl (by decide) rfl (fun ls hl => ?_)
                    refine lv_aload_n hx hb dL_isNextSo_134 rfl (lv_at hl 1 rfl) ?_
                    refine lv_iconst (v := nI (3)) hx hb dL_isNextSo_135 (by decide) ?_
                    refine lv_iload_n hx hb dL_isNextSo_136 rfl (lv_at hl 2 rfl) ?_
                    refine lv_if_eq (tgt := 144) hx hb dL_isNextSo_137 (by decide) (fun c_26 => ?_) (fun c_26 => ?_)
                    · have f_27 : (0 : Int) = (0 : Int) := (c_eq (nI_toInt (n := 0) (by omega)) rfl).mp c_26
                      refine lv_iconst (v := nI (0)) hx hb dL_isNextSo_144 (by decide) ?_
                      refine lv_iconst (v := nI (0)) hx hb dL_isNextSo_145 (by decide) ?_
                      refine lv_iconst (v := nI (0)) hx hb dL_isNextSo_146 (by decide) ?_
                      refine lv_aload_n hx hb dL_isNextSo_147 rfl (lv_at hl 3 rfl) ?_
                      refine kWi (vx_runSW (As := [.ref (a 0), .int (nI (3)), .int (nI (0)), .int (nI (0)), .int (nI (0)), .ref oa]) (rest := []) ⟨hx, hb, hml, hown, hts⟩ (o_chg_3 a v u_4 oa of (nI (0)) (nI (0)) (nI (0)) (Or.inl rfl) hv0 (by omega) hjj hfl hP (hD.weaken (fun _ _ _ h => hLo _ h))) (vx_cwSW 6 hts gL_isNextSo_L_changes rfl rfl rfl (by decide +kernel) ⟨(Nat.le_of_ble_eq_true rfl), (Nat.le_of_ble_eq_true rfl)⟩) (preSX hCX hS hLo) rfl rfl hl.1 rfl (lv_room (Nat.le_of_ble_eq_true rfl)) dL_isNextSo_148 ⟨(Nat.le_of_ble_eq_true rfl), (Nat.le_of_ble_eq_true rfl)⟩) hP hD hS hA (fun _ => ou_fst) (fun r_28 u_29 H locs q_30 hP hD hS => ?_)
                      obtain ⟨v1, j1, of1⟩ := u_29
                      obtain ⟨qr, q2, _⟩ := q_30
                      obtain ⟨mo, hmo1, hu1, hj1, hjh1, hof⟩ := q2 rfl
                      have hu1 : v1 = sndV 0 v mo := hu1.trans (by show sndV (nI 0).toInt.toNat v mo = _; rw [show (nI 0).toInt.toNat = 0 by decide])
                      subst hu1
                      have hj1 : OKJ j1 := hj1
                      have hjh1 : jH j1 = rcH (jH j) v := hjh1.trans (by rw [hje])
                      obtain ⟨hvs, hps, hpi1, hbi1⟩ := snd_ok (mo := mo) (lost := 0) hv0 hpc0 (by omega)
                      have hP : PP G (oW G a (sndV 0 v mo) j1 ++ ouW G oa of1) H := hP
                      have hD : va_D A (oW G a (sndV 0 v mo) j1 ++ ouW G oa of1) := hD
                      refine topE (v' := nI 0) qr ?_
                      refine lv_istore (lv' := [(11, .int (nI (0))), (10, .int (nI (1))), (0, .ref (a 0)), (1, .int (nI (0))), (2, .ref oa), (3, .int (iI (-1))), (4, .int (nI (BITS v))), (5, .int (nI (66 * 4))), (6, .int (nI (sBi v))), (7, .int (nI (sPi v))), (8, .int (iI (sZ (fun j => ((sT v j - sG v j).natAbs : Int)) 64))), (9, .int (nI (1)))]) hx hb dL_isNextSo_151 hl (by decide) rfl (fun ls hl => ?_)
                      refine lv_iload hx hb dL_isNextSo_153 (lv_at hl 1 rfl) ?_
                      refine lv_if_eq (tgt := 226) hx hb dL_isNextSo_155 (by decide) (fun c_31 => ?_) (fun c_31 => ?_)
                      · have f_32 : (1 : Int) = (0 : Int) := (c_eq (nI_toInt (n := 1) (by omega)) rfl).mp c_31
                        exfalso; omega
                      · have f_33 : ¬ (1 : Int) = (0 : Int) := fun z => c_31 ((c_eq (nI_toInt (n := 1) (by omega)) rfl).mpr z)
                        refine lv_iload hx hb dL_isNextSo_158 (lv_at hl 0 rfl) ?_
                        refine lv_if_ne (tgt := 226) hx hb dL_isNextSo_160 (by decide) (fun c_34 => ?_) (fun c_34 => ?_)
                        · have f_35 : ¬ (0 : Int) = (0 : Int) := fun z => c_34 ((c_eq (nI_toInt (n := 0) (by omega)) rfl).mpr z)
                          exfalso; omega
                        · have f_36 : (0 : Int) = (0 : Int) := (c_eq (nI_toInt (n := 0) (by omega)) rfl).mp c_34
                          refine lv_aload_n hx hb dL_isNextSo_163 rfl (lv_at hl 4 rfl) ?_
                          refine lv_iconst (v := nI (0)) hx hb dL_isNextSo_164 (by decide) ?_
                          refine gIald (j := 0) hx hb hC.K (PP_r hP) 0 0 rfl rfl rfl (by decide) (by decide) dL_isNextSo_165 ?_
                          refine topE (v' := nI (BITS v)) (hof) ?_
                          refine lv_iload hx hb dL_isNextSo_166 (lv_at hl 6 rfl) ?_
                          refine lv_icmp_ne (tgt := 226) hx hb dL_isNextSo_168 (by decide) (fun c_37 => ?_) (fun c_37 => ?_)
                          · have f_38 := c_37
                            exact absurd rfl f_38
                          · have f_39 := c_37
                            refine lv_aload_n hx hb dL_isNextSo_171 rfl (lv_at hl 2 rfl) ?_
                            refine kPi (va_runV (As := []) (rest := []) ⟨hx, hb, hml, hown, hts⟩ (c_X8_bitCount a (sndV 0 v mo) (oW_now (PP_l hP))) (cwV 0 hts gL_isNextSo_X8_bitCount rfl rfl rfl (by decide +kernel) ⟨(Nat.le_of_ble_eq_true rfl), (Nat.le_of_ble_eq_true rfl)⟩) (preV hC hS hLo (oW_obj (PP_l hP)) (ci := 7) (q0 := 0) rfl rfl) rfl rfl hl.1 rfl (lv_room (Nat.le_of_ble_eq_true rfl)) dL_isNextSo_172 ⟨(Nat.le_of_ble_eq_true rfl), (Nat.le_of_ble_eq_true rfl)⟩) hS (fun locs hS => ?_)
                            refine topE (v' := nI ((sBi v) + (BITS v))) (congrArg nI hbi1) ?_
                            refine lv_iload hx hb dL_isNextSo_175 (lv_at hl 8 rfl) ?_
                            refine lv_iload hx hb dL_isNextSo_177 (lv_at hl 6 rfl) ?_
                            refine gAdd (z := nI ((sBi v) + (BITS v))) hx hb dL_isNextSo_179 (nI_add _ _) ?_
                            refine lv_icmp_ne (tgt := 226) hx hb dL_isNextSo_180 (by decide) (fun c_40 => ?_) (fun c_40 => ?_)
                            · have f_41 := c_40
                              exact absurd rfl f_41
                            · have f_42 := c_40
                              refine lv_aload_n hx hb dL_isNextSo_183 rfl (lv_at hl 2 rfl) ?_
                              refine kPi (va_runV (As := []) (rest := []) ⟨hx, hb, hml, hown, hts⟩ (c_X8_pictureCount a (sndV 0 v mo) (oW_now (PP_l hP))) (cwV 0 hts gL_isNextSo_X8_pictureCount rfl rfl rfl (by decide +kernel) ⟨(Nat.le_of_ble_eq_true rfl), (Nat.le_of_ble_eq_true rfl)⟩) (preV hC hS hLo (oW_obj (PP_l hP)) (ci := 7) (q0 := 0) rfl rfl) rfl rfl hl.1 rfl (lv_room (Nat.le_of_ble_eq_true rfl)) dL_isNextSo_184 ⟨(Nat.le_of_ble_eq_true rfl), (Nat.le_of_ble_eq_true rfl)⟩) hS (fun locs hS => ?_)
                              refine topE (v' := nI ((sPi v) + 1)) (congrArg nI hpi1) ?_
                              refine lv_iload hx hb dL_isNextSo_187 (lv_at hl 9 rfl) ?_
                              refine lv_iconst (v := nI (1)) hx hb dL_isNextSo_189 (by decide) ?_
                              refine gAdd (z := nI ((sPi v) + 1)) hx hb dL_isNextSo_190 (nI_add _ _) ?_
                              refine lv_icmp_ne (tgt := 226) hx hb dL_isNextSo_191 (by decide) (fun c_43 => ?_) (fun c_43 => ?_)
                              · have f_44 := c_43
                                exact absurd rfl f_44
                              · have f_45 := c_43
                                refine lv_iload_n hx hb dL_isNextSo_194 rfl (lv_at hl 5 rfl) ?_
                                refine lv_iconst (v := nI (1)) hx hb dL_isNextSo_195 (by decide) ?_
                                refine lv_icmp_gt (tgt := 206) hx hb dL_isNextSo_196 (by decide) (fun c_46 => ?_) (fun c_46 => ?_)
                                · have f_47 : (1 : Int) < (-1) := (c_lt (nI_toInt (n := 1) (by omega)) (iI_toInt (by omega) (by omega))).mp c_46
                                  exfalso; omega
                                · have f_48 : ¬ (1 : Int) < (-1) := fun z => c_46 ((c_lt (nI_toInt (n := 1) (by omega)) (iI_toInt (by omega) (by omega))).mpr z)
                                  refine lv_aload_n hx hb dL_isNextSo_199 rfl (lv_at hl 2 rfl) ?_
                                  refine kPi (va_runV (As := []) (rest := []) ⟨hx, hb, hml, hown, hts⟩ (c_X8_error a (sndV 0 v mo) hvs.1 hvs.2.1 hvs.2.2.1 (oW_now (PP_l hP))) (cwV 0 hts gL_isNextSo_X8_error rfl rfl rfl (by decide +kernel) ⟨(Nat.le_of_ble_eq_true rfl), (Nat.le_of_ble_eq_true rfl)⟩) (preV hC hS hLo (oW_obj (PP_l hP)) (ci := 7) (q0 := 0) rfl rfl) rfl rfl hl.1 rfl (lv_room (Nat.le_of_ble_eq_true rfl)) dL_isNextSo_200 ⟨(Nat.le_of_ble_eq_true rfl), (Nat.le_of_ble_eq_true rfl)⟩) hS (fun locs hS => ?_)
                                  refine topE (v' := nI (0)) ((congrArg iI (snd_err (by omega))).trans (nI_i 0).symm) ?_
                                  refine lv_if_ne (tgt := 226) hx hb dL_isNextSo_203 (by decide) (fun c_49 => ?_) (fun c_49 => ?_)
                                  · have f_50 : ¬ (0 : Int) = (0 : Int) := fun z => c_49 ((c_eq (nI_toInt (n := 0) (by omega)) rfl).mpr z)
                                    exfalso; omega
                                  · have f_51 : (0 : Int) = (0 : Int) := (c_eq (nI_toInt (n := 0) (by omega)) rfl).mp c_49
                                    refine lv_iload hx hb dL_isNextSo_206 (lv_at hl 11 rfl) ?_
                                    refine lv_if_eq (tgt := 222) hx hb dL_isNextSo_208 (by decide) (fun c_52 => ?_) (fun c_52 => ?_)
                                    · have f_53 : (1 : Int) = (0 : Int) := (c_eq (nI_toInt (n := 1) (by omega)) rfl).mp c_52
                                      exfalso; omega
                                    · have f_54 : ¬ (1 : Int) = (0 : Int) := fun z => c_52 ((c_eq (nI_toInt (n := 1) (by omega)) rfl).mpr z)
                                      refine lv_iload_n hx hb dL_isNextSo_211 rfl (lv_at hl 3 rfl) ?_
                                      refine lv_if_ne (tgt := 222) hx hb dL_isNextSo_212 (by decide) (fun c_55 => ?_) (fun c_55 => ?_)
                                      · have f_56 : ¬ (0 : Int) = (0 : Int) := fun z => c_55 ((c_eq (nI_toInt (n := 0) (by omega)) rfl).mpr z)
                                        exfalso; omega
                                      · have f_57 : (0 : Int) = (0 : Int) := (c_eq (nI_toInt (n := 0) (by omega)) rfl).mp c_55
                                        refine lv_aload_n hx hb dL_isNextSo_215 rfl (lv_at hl 2 rfl) ?_
                                        refine kPi (va_runV (As := []) (rest := []) ⟨hx, hb, hml, hown, hts⟩ (c_X8_drift a (sndV 0 v mo) hvs.1 hvs.2.1 hvs.2.2.1 (oW_now (PP_l hP))) (cwV 0 hts gL_isNextSo_X8_drift rfl rfl rfl (by decide +kernel) ⟨(Nat.le_of_ble_eq_true rfl), (Nat.le_of_ble_eq_true rfl)⟩) (preV hC hS hLo (oW_obj (PP_l hP)) (ci := 7) (q0 := 0) rfl rfl) rfl rfl hl.1 rfl (lv_room (Nat.le_of_ble_eq_true rfl)) dL_isNextSo_216 ⟨(Nat.le_of_ble_eq_true rfl), (Nat.le_of_ble_eq_true rfl)⟩) hS (fun locs hS => ?_)
                                        refine topE (v' := nI (0)) ((congrArg iI (drf_0 (snd_key hkey))).trans (nI_i 0).symm) ?_
                                        refine lv_if_ne (tgt := 226) hx hb dL_isNextSo_219 (by decide) (fun c_58 => ?_) (fun c_58 => ?_)
                                        · have f_59 : ¬ (0 : Int) = (0 : Int) := fun z => c_58 ((c_eq (nI_toInt (n := 0) (by omega)) rfl).mpr z)
                                          exfalso; omega
                                        · have f_60 : (0 : Int) = (0 : Int) := (c_eq (nI_toInt (n := 0) (by omega)) rfl).mp c_58
                                          refine lv_iconst (v := nI (1)) hx hb dL_isNextSo_222 (by decide) ?_
                                          refine lv_goto (tgt := 227) hx hb dL_isNextSo_223 (by decide) ?_
                                          refine lv_istore (lv' := [(10, .int (nI (1))), (11, .int (nI (0))), (0, .ref (a 0)), (1, .int (nI (0))), (2, .ref oa), (3, .int (iI (-1))), (4, .int (nI (BITS v))), (5, .int (nI (66 * 4))), (6, .int (nI (sBi v))), (7, .int (nI (sPi v))), (8, .int (iI (sZ (fun j => ((sT v j - sG v j).natAbs : Int)) 64))), (9, .int (nI (1)))]) hx hb dL_isNextSo_227 hl (by decide) rfl (fun ls hl => ?_)
                                          refine lv_iload hx hb dL_isNextSo_229 (lv_at hl 11 rfl) ?_
                                          refine lv_if_ne (tgt := 267) hx hb dL_isNextSo_231 (by decide) (fun c_61 => ?_) (fun c_61 => ?_)
                                          · have f_62 : ¬ (1 : Int) = (0 : Int) := fun z => c_61 ((c_eq (nI_toInt (n := 1) (by omega)) rfl).mpr z)
                                            refine lv_iload hx hb dL_isNextSo_267 (lv_at hl 0 rfl) ?_
                                            refine lv_if_eq (tgt := 310) hx hb dL_isNextSo_269 (by decide) (fun c_63 => ?_) (fun c_63 => ?_)
                                            · have f_64 : (1 : Int) = (0 : Int) := (c_eq (nI_toInt (n := 1) (by omega)) rfl).mp c_63
                                              exfalso; omega
                                            · have f_65 : ¬ (1 : Int) = (0 : Int) := fun z => c_63 ((c_eq (nI_toInt (n := 1) (by omega)) rfl).mpr z)
                                              refine lv_aload_n hx hb dL_isNextSo_272 rfl (lv_at hl 2 rfl) ?_
                                              refine kPreI (va_runV (As := []) (rest := []) ⟨hx, hb, hml, hown, hts⟩ (o_undo a (sndV 0 v mo) j1 (jH j) v hj.2.2.1 hj1 hjh1 (PP_l hP) ((pre_D hD).weaken (fun _ _ _ h => hLo _ h))) (cwV 0 hts gL_isNextSo_X8_undo rfl rfl rfl (by decide +kernel) ⟨(Nat.le_of_ble_eq_true rfl), (Nat.le_of_ble_eq_true rfl)⟩) (preV hC hS hLo (oW_obj (PP_l hP)) (ci := 7) (q0 := 0) rfl rfl) rfl rfl hl.1 rfl (lv_room (Nat.le_of_ble_eq_true rfl)) dL_isNextSo_273 ⟨(Nat.le_of_ble_eq_true rfl), (Nat.le_of_ble_eq_true rfl)⟩) hP hD hS hA (fun _ => oW_fst) (fun r_68 u_66 H locs q_67 hP hD hS => ?_)
                                              have hP : PP G (oW G a v u_66 ++ ouW G oa of1) H := hP
                                              have hD : va_D A (oW G a v u_66 ++ ouW G oa of1) := hD
                                              have hjj := q_67.2.1
                                              have hje := q_67.2.2
                                              refine topE (v' := nI (min ((jH j).2.1 + 1) 6 - 1)) (q_67.1) ?_
                                              refine lv_if_lt (tgt := 310) hx hb dL_isNextSo_276 (by decide) (fun c_69 => ?_) (fun c_69 => ?_)
                                              · have f_70 : ((min ((jH j).2.1 + 1) 6 - 1 : Nat) : Int) < (0 : Int) := (c_lt (nI_toInt (n := min ((jH j).2.1 + 1) 6 - 1) (by omega)) rfl).mp c_69
                                                exfalso; omega
                                              · have f_71 : ¬ ((min ((jH j).2.1 + 1) 6 - 1 : Nat) : Int) < (0 : Int) := fun z => c_69 ((c_lt (nI_toInt (n := min ((jH j).2.1 + 1) 6 - 1) (by omega)) rfl).mpr z)
                                                refine lv_aload_n hx hb dL_isNextSo_279 rfl (lv_at hl 2 rfl) ?_
                                                refine kPi (va_runV (As := []) (rest := []) ⟨hx, hb, hml, hown, hts⟩ (c_X8_pictureCount a v (oW_now (PP_l hP))) (cwV 0 hts gL_isNextSo_X8_pictureCount rfl rfl rfl (by decide +kernel) ⟨(Nat.le_of_ble_eq_true rfl), (Nat.le_of_ble_eq_true rfl)⟩) (preV hC hS hLo (oW_obj (PP_l hP)) (ci := 7) (q0 := 0) rfl rfl) rfl rfl hl.1 rfl (lv_room (Nat.le_of_ble_eq_true rfl)) dL_isNextSo_280 ⟨(Nat.le_of_ble_eq_true rfl), (Nat.le_of_ble_eq_true rfl)⟩) hS (fun locs hS => ?_)
                                                refine topE (v' := nI (sPi v)) (rfl) ?_
                                                refine lv_iload hx hb dL_isNextSo_283 (lv_at hl 9 rfl) ?_
                                                refine lv_icmp_ne (tgt := 310) hx hb dL_isNextSo_285 (by decide) (fun c_72 => ?_) (fun c_72 => ?_)
                                                · have f_73 := c_72
                                                  exact absurd rfl f_73
                                                · have f_74 := c_72
                                                  refine lv_aload_n hx hb dL_isNextSo_288 rfl (lv_at hl 2 rfl) ?_
                                                  refine kPi (va_runV (As := []) (rest := []) ⟨hx, hb, hml, hown, hts⟩ (c_X8_drift a v hd ht hg (oW_now (PP_l hP))) (cwV 0 hts gL_isNextSo_X8_drift rfl rfl rfl (by decide +kernel) ⟨(Nat.le_of_ble_eq_true rfl), (Nat.le_of_ble_eq_true rfl)⟩) (preV hC hS hLo (oW_obj (PP_l hP)) (ci := 7) (q0 := 0) rfl rfl) rfl rfl hl.1 rfl (lv_room (Nat.le_of_ble_eq_true rfl)) dL_isNextSo_289 ⟨(Nat.le_of_ble_eq_true rfl), (Nat.le_of_ble_eq_true rfl)⟩) hS (fun locs hS => ?_)
                                                  refine topE (v' := iI (sZ (fun j => ((sT v j - sG v j).natAbs : Int)) 64)) (rfl) ?_
                                                  refine lv_iload hx hb dL_isNextSo_292 (lv_at hl 10 rfl) ?_
                                                  refine lv_icmp_ne (tgt := 310) hx hb dL_isNextSo_294 (by decide) (fun c_75 => ?_) (fun c_75 => ?_)
                                                  · have f_76 := c_75
                                                    exact absurd rfl f_76
                                                  · have f_77 := c_75
                                                    refine lv_aload_n hx hb dL_isNextSo_297 rfl (lv_at hl 2 rfl) ?_
                                                    refine kPreI (va_runV (As := []) (rest := []) ⟨hx, hb, hml, hown, hts⟩ (o_bitsNext a v u_66 hv0 (by omega) hjj (PP_l hP) ((pre_D hD).weaken (fun _ _ _ h => hLo _ h))) (cwV 0 hts gL_isNextSo_X8_bitsNext rfl rfl rfl (by decide +kernel) ⟨(Nat.le_of_ble_eq_true rfl), (Nat.le_of_ble_eq_true rfl)⟩) (preV hC hS hLo (oW_obj (PP_l hP)) (ci := 7) (q0 := 0) rfl rfl) rfl rfl hl.1 rfl (lv_room (Nat.le_of_ble_eq_true rfl)) dL_isNextSo_298 ⟨(Nat.le_of_ble_eq_true rfl), (Nat.le_of_ble_eq_true rfl)⟩) hP hD hS hA (fun _ => oW_fst) (fun r_80 u_78 H locs q_79 hP hD hS => ?_)
                                                    have hP : PP G (oW G a v u_78 ++ ouW G oa of1) H := hP
                                                    have hD : va_D A (oW G a v u_78 ++ ouW G oa of1) := hD
                                                    have hje := q_79.2.2.trans hje
                                                    have hjj := q_79.2.1
                                                    refine topE (v' := nI (BITS v)) (q_79.1) ?_
                                                    refine lv_iload hx hb dL_isNextSo_301 (lv_at hl 6 rfl) ?_
                                                    refine lv_icmp_ne (tgt := 310) hx hb dL_isNextSo_303 (by decide) (fun c_81 => ?_) (fun c_81 => ?_)
                                                    · have f_82 := c_81
                                                      exact absurd rfl f_82
                                                    · have f_83 := c_81
                                                      refine lv_iconst (v := nI (1)) hx hb dL_isNextSo_306 (by decide) ?_
                                                      refine lv_goto (tgt := 311) hx hb dL_isNextSo_307 (by decide) ?_
                                                      exact xMi (G := G) (post := (fun (r : Int32) (u : JT × (Nat → Int32)) => r = nI 1 ∧ OKJ u.1 ∧ jH u.1 = rbH (jH j) v)) (w1 := (fun (u : JT × (Nat → Int32)) => oW G a v u.1 ++ ouW G oa u.2)) ((u_78, of1)) hx hb hr hlocks hP hS (by exact ⟨rfl, hjj, hje⟩) (by exact rfl) dL_isNextSo_311
                                          · have f_84 : (1 : Int) = (0 : Int) := (c_eq (nI_toInt (n := 1) (by omega)) rfl).mp c_61
                                            exfalso; omega
                    · have f_85 : ¬ (0 : Int) = (0 : Int) := fun z => c_26 ((c_eq (nI_toInt (n := 0) (by omega)) rfl).mpr z)
                      exfalso; omega
                  · have f_86 : (1 : Int) = (0 : Int) := (c_eq (nI_toInt (n := 1) (by omega)) rfl).mp c_24
                    exfalso; omega
      · have f_87 : ¬ (4 : Int) ≤ ((i : Nat) : Int) := fun z => c_7 ((c_le (nI_toInt (n := 4) (by omega)) (nI_toInt (n := i) (by omega))).mpr z)
        refine lv_iload hx hb dL_isNextSo_47 (lv_at hl 5 rfl) ?_
        refine lv_iload hx hb dL_isNextSo_49 (lv_at hl 9 rfl) ?_
        refine lv_if_eq (tgt := 59) hx hb dL_isNextSo_51 (by decide) (fun c_88 => ?_) (fun c_88 => ?_)
        · have f_89 : (1 : Int) = (0 : Int) := (c_eq (nI_toInt (n := 1) (by omega)) rfl).mp c_88
          exfalso; omega
        · have f_90 : ¬ (1 : Int) = (0 : Int) := fun z => c_88 ((c_eq (nI_toInt (n := 1) (by omega)) rfl).mpr z)
          refine lv_bipush (v := nI (66)) hx hb dL_isNextSo_54 (by decide) ?_
          refine lv_goto (tgt := 66) hx hb dL_isNextSo_56 (by decide) ?_
          refine gAdd (z := nI ((66 * i) + 66)) hx hb dL_isNextSo_66 (nI_add _ _) ?_
          refine lv_istore (lv' := [(5, .int (nI ((66 * i) + 66))), (0, .ref (a 0)), (1, .int (nI (0))), (2, .ref oa), (3, .int (iI (-1))), (4, .int (nI (BITS v))), (6, .int (nI (sBi v))), (7, .int (nI (sPi v))), (8, .int (iI (sZ (fun j => ((sT v j - sG v j).natAbs : Int)) 64))), (9, .int (nI (1))), (10, .int (nI (i)))]) hx hb dL_isNextSo_67 hl (by decide) rfl (fun ls hl => ?_)
          refine lv_iinc (v := nI (i + 1)) (lv' := [(10, .int (nI (i + 1))), (5, .int (nI ((66 * i) + 66))), (0, .ref (a 0)), (1, .int (nI (0))), (2, .ref oa), (3, .int (iI (-1))), (4, .int (nI (BITS v))), (6, .int (nI (sBi v))), (7, .int (nI (sPi v))), (8, .int (iI (sZ (fun j => ((sT v j - sG v j).natAbs : Int)) 64))), (9, .int (nI (1)))]) hx hb dL_isNextSo_69 hl (k := 10) rfl (inc_p i 1) (by decide) rfl (fun ls hl => ?_)
          refine lv_goto (tgt := 41) hx hb dL_isNextSo_72 (by decide) ?_
          exact ih_41 (i + 1) (by omega) (by omega) locs ls hS (lv_sub hl [2, 3, 4, 5, 6, 1, 7, 8, 9, 10, 0] ((lvc rfl (lvc rfl (lvc rfl (lvc rfl (lvc rfl (lvc (congrArg Value.int (congrArg nI (by omega))) (lvc rfl (lvc rfl (lvc rfl (lvc rfl (lvc (congrArg Value.int (rfl)) rfl)))))))))))))
  exact L_41 (4 + 1) 0 (Nat.lt_succ_self _) (by omega) locs ls hS (lv_sub hl [8, 9, 10, 7, 6, 5, 4, 3, 2, 1, 0] (lvc rfl (lvc rfl (lvc rfl (lvc rfl (lvc rfl (lvc (congrArg Value.int (rfl)) (lvc rfl (lvc rfl (lvc rfl (lvc rfl (lvc rfl rfl))))))))))))

set_option maxHeartbeats 4000000 in
set_option maxRecDepth 100000 in
theorem c_L_next_k1 {l : Launch} {G : GT} {H0 : Heap} (a : Nat → Nat) (v : SVT) (j : JT) (oa : Nat) (of : Nat → Int32) (hv : OKS v) (hpc : PIC v) (hpi : sPi v ≤ 900) (hj : OKJ j) (hkey : sPi v % sKd v = 0) (hfl : l.stackTraces = false) (hP0 : PP G (oW G a v j ++ ouW G oa of) H0) (hB0 : va_D (lo G) (oW G a v j ++ ouW G oa of)) : Met l yL_isNextSo wsL_isNextSo ({ frames := 9, cells := 1, slots := 6, locals := 168 } : Room) (pcX G [.ref (a 0), .int (nI (1)), .ref oa] H0) (qMi G (fun (r : Int32) (u : JT × (Nat → Int32)) => r = nI 1 ∧ OKJ u.1 ∧ jH u.1 = rbH (jH j) v) (fun (u : JT × (Nat → Int32)) => oW G a v u.1 ++ ouW G oa u.2) (oW G a v j ++ ouW G oa of) H0) 1 6 (va_A (oW G a v j ++ ouW G oa of) H0.size) := by
  refine enterNX (cc := cL_isNextSo) (maxL := 12) (ret := some .boolean) (own := RL) (lv := [(0, .ref (a 0)), (1, .int (nI (1))), (2, .ref oa)]) (by decide) rfl rfl rfl (Nat.le_of_ble_eq_true rfl) ?_
  intro pg ev s m below meth c hx hb hr hts hown hlocks hml hnm hH hCX ls hl
  subst hH
  have hC := hCX.1
  have hLo := va_freeB hB0 hC.2.2.2.1
  have hD := hB0.self (sz := s.heap.size)
  have hS : va_S (va_A (oW G a v j ++ ouW G oa of) s.heap.size) s.heap s.heap [] := va_S.rf
  unfold qMi
  generalize hAe : va_A (oW G a v j ++ ouW G oa of) s.heap.size = A at hD hLo hS ⊢
  have hA : ∀ q, s.heap.size ≤ q → A q := fun q h => by rw [← hAe]; exact Or.inr h
  generalize ([] : List Loc) = locs at hS ⊢
  have hP := hP0
  have hv0 := hv
  have hpc0 := hpc
  obtain ⟨hd, ht, hg, hk, hbu, hkd⟩ := hv
  obtain ⟨p1, p2, p3, p4, p5⟩ := hpc
  have hbi := BITS_in v
  have hcm := COM_in (sD v) (sT v) (sBu v)
  have hco : COAR v = -1 := if_pos hkey
  have hbk : BITS v = 264 := if_pos hkey
  have hzd : 0 ≤ sZ (fun j => ((sT v j - sG v j).natAbs : Int)) 64 ∧ sZ (fun j => ((sT v j - sG v j).natAbs : Int)) 64 ≤ 15 * ((64 : Nat) : Int) := sZ_in (fun k => by have h1 : 0 ≤ sT v k ∧ sT v k ≤ 15 := ht k; have h2 : 0 ≤ sG v k ∧ sG v k ≤ 15 := hg k; show 0 ≤ ((sT v k - sG v k).natAbs : Int) ∧ ((sT v k - sG v k).natAbs : Int) ≤ 15; omega) 64
  refine lv_aload_n hx hb dL_isNextSo_0 rfl (lv_at hl 0 rfl) ?_
  refine kPreI (va_runV (As := []) (rest := []) ⟨hx, hb, hml, hown, hts⟩ (o_coarsenessNext a v j hv0 (by omega) hj (PP_l hP) ((pre_D hD).weaken (fun _ _ _ h => hLo _ h))) (cwV 0 hts gL_isNextSo_X8_coarsenessNext rfl rfl rfl (by decide +kernel) ⟨(Nat.le_of_ble_eq_true rfl), (Nat.le_of_ble_eq_true rfl)⟩) (preV hC hS hLo (oW_obj (PP_l hP)) (ci := 7) (q0 := 0) rfl rfl) rfl rfl hl.1 rfl (lv_room (Nat.le_of_ble_eq_true rfl)) dL_isNextSo_1 ⟨(Nat.le_of_ble_eq_true rfl), (Nat.le_of_ble_eq_true rfl)⟩) hP hD hS hA (fun _ => oW_fst) (fun r_3 u_1 H locs q_2 hP hD hS => ?_)
  have hP : PP G (oW G a v u_1 ++ ouW G oa of) H := hP
  have hD : va_D A (oW G a v u_1 ++ ouW G oa of) := hD
  have hjj := q_2.2.1
  have hje := q_2.2.2
  refine topE (v' := iI (-1)) (q_2.1.trans (by rw [hco])) ?_
  refine lv_istore_n (lv' := [(3, .int (iI (-1))), (0, .ref (a 0)), (1, .int (nI (1))), (2, .ref oa)]) hx hb dL_isNextSo_4 rfl hl (by decide) rfl (fun ls hl => ?_)
  refine lv_aload_n hx hb dL_isNextSo_5 rfl (lv_at hl 1 rfl) ?_
  refine kPreI (va_runV (As := []) (rest := []) ⟨hx, hb, hml, hown, hts⟩ (o_bitsNext a v u_1 hv0 (by omega) hjj (PP_l hP) ((pre_D hD).weaken (fun _ _ _ h => hLo _ h))) (cwV 0 hts gL_isNextSo_X8_bitsNext rfl rfl rfl (by decide +kernel) ⟨(Nat.le_of_ble_eq_true rfl), (Nat.le_of_ble_eq_true rfl)⟩) (preV hC hS hLo (oW_obj (PP_l hP)) (ci := 7) (q0 := 0) rfl rfl) rfl rfl hl.1 rfl (lv_room (Nat.le_of_ble_eq_true rfl)) dL_isNextSo_6 ⟨(Nat.le_of_ble_eq_true rfl), (Nat.le_of_ble_eq_true rfl)⟩) hP hD hS hA (fun _ => oW_fst) (fun r_6 u_4 H locs q_5 hP hD hS => ?_)
  have hP : PP G (oW G a v u_4 ++ ouW G oa of) H := hP
  have hD : va_D A (oW G a v u_4 ++ ouW G oa of) := hD
  have hje := q_5.2.2.trans hje
  have hjj := q_5.2.1
  refine topE (v' := nI (BITS v)) (q_5.1) ?_
  refine lv_istore (lv' := [(4, .int (nI (BITS v))), (3, .int (iI (-1))), (0, .ref (a 0)), (1, .int (nI (1))), (2, .ref oa)]) hx hb dL_isNextSo_9 hl (by decide) rfl (fun ls hl => ?_)
  refine lv_iconst (v := nI (0)) hx hb dL_isNextSo_11 (by decide) ?_
  refine lv_istore (lv' := [(5, .int (nI (0))), (4, .int (nI (BITS v))), (3, .int (iI (-1))), (0, .ref (a 0)), (1, .int (nI (1))), (2, .ref oa)]) hx hb dL_isNextSo_12 hl (by decide) rfl (fun ls hl => ?_)
  refine lv_aload_n hx hb dL_isNextSo_14 rfl (lv_at hl 3 rfl) ?_
  refine kPi (va_runV (As := []) (rest := []) ⟨hx, hb, hml, hown, hts⟩ (c_X8_bitCount a v (oW_now (PP_l hP))) (cwV 0 hts gL_isNextSo_X8_bitCount rfl rfl rfl (by decide +kernel) ⟨(Nat.le_of_ble_eq_true rfl), (Nat.le_of_ble_eq_true rfl)⟩) (preV hC hS hLo (oW_obj (PP_l hP)) (ci := 7) (q0 := 0) rfl rfl) rfl rfl hl.1 rfl (lv_room (Nat.le_of_ble_eq_true rfl)) dL_isNextSo_15 ⟨(Nat.le_of_ble_eq_true rfl), (Nat.le_of_ble_eq_true rfl)⟩) hS (fun locs hS => ?_)
  refine topE (v' := nI (sBi v)) (rfl) ?_
  refine lv_istore (lv' := [(6, .int (nI (sBi v))), (5, .int (nI (0))), (4, .int (nI (BITS v))), (3, .int (iI (-1))), (0, .ref (a 0)), (1, .int (nI (1))), (2, .ref oa)]) hx hb dL_isNextSo_18 hl (by decide) rfl (fun ls hl => ?_)
  refine lv_aload_n hx hb dL_isNextSo_20 rfl (lv_at hl 4 rfl) ?_
  refine kPi (va_runV (As := []) (rest := []) ⟨hx, hb, hml, hown, hts⟩ (c_X8_pictureCount a v (oW_now (PP_l hP))) (cwV 0 hts gL_isNextSo_X8_pictureCount rfl rfl rfl (by decide +kernel) ⟨(Nat.le_of_ble_eq_true rfl), (Nat.le_of_ble_eq_true rfl)⟩) (preV hC hS hLo (oW_obj (PP_l hP)) (ci := 7) (q0 := 0) rfl rfl) rfl rfl hl.1 rfl (lv_room (Nat.le_of_ble_eq_true rfl)) dL_isNextSo_21 ⟨(Nat.le_of_ble_eq_true rfl), (Nat.le_of_ble_eq_true rfl)⟩) hS (fun locs hS => ?_)
  refine topE (v' := nI (sPi v)) (rfl) ?_
  refine lv_istore (lv' := [(7, .int (nI (sPi v))), (6, .int (nI (sBi v))), (5, .int (nI (0))), (4, .int (nI (BITS v))), (3, .int (iI (-1))), (0, .ref (a 0)), (1, .int (nI (1))), (2, .ref oa)]) hx hb dL_isNextSo_24 hl (by decide) rfl (fun ls hl => ?_)
  refine lv_aload_n hx hb dL_isNextSo_26 rfl (lv_at hl 5 rfl) ?_
  refine kPi (va_runV (As := []) (rest := []) ⟨hx, hb, hml, hown, hts⟩ (c_X8_drift a v hd ht hg (oW_now (PP_l hP))) (cwV 0 hts gL_isNextSo_X8_drift rfl rfl rfl (by decide +kernel) ⟨(Nat.le_of_ble_eq_true rfl), (Nat.le_of_ble_eq_true rfl)⟩) (preV hC hS hLo (oW_obj (PP_l hP)) (ci := 7) (q0 := 0) rfl rfl) rfl rfl hl.1 rfl (lv_room (Nat.le_of_ble_eq_true rfl)) dL_isNextSo_27 ⟨(Nat.le_of_ble_eq_true rfl), (Nat.le_of_ble_eq_true rfl)⟩) hS (fun locs hS => ?_)
  refine topE (v' := iI (sZ (fun j => ((sT v j - sG v j).natAbs : Int)) 64)) (rfl) ?_
  refine lv_istore (lv' := [(8, .int (iI (sZ (fun j => ((sT v j - sG v j).natAbs : Int)) 64))), (7, .int (nI (sPi v))), (6, .int (nI (sBi v))), (5, .int (nI (0))), (4, .int (nI (BITS v))), (3, .int (iI (-1))), (0, .ref (a 0)), (1, .int (nI (1))), (2, .ref oa)]) hx hb dL_isNextSo_30 hl (by decide) rfl (fun ls hl => ?_)
  refine lv_aload_n hx hb dL_isNextSo_32 rfl (lv_at hl 6 rfl) ?_
  refine kPi (va_runV (As := []) (rest := []) ⟨hx, hb, hml, hown, hts⟩ (c_X8_isKeyNext a v hkd (Nat.le_trans hpi (by decide)) (oW_now (PP_l hP))) (cwV 0 hts gL_isNextSo_X8_isKeyNext rfl rfl rfl (by decide +kernel) ⟨(Nat.le_of_ble_eq_true rfl), (Nat.le_of_ble_eq_true rfl)⟩) (preV hC hS hLo (oW_obj (PP_l hP)) (ci := 7) (q0 := 0) rfl rfl) rfl rfl hl.1 rfl (lv_room (Nat.le_of_ble_eq_true rfl)) dL_isNextSo_33 ⟨(Nat.le_of_ble_eq_true rfl), (Nat.le_of_ble_eq_true rfl)⟩) hS (fun locs hS => ?_)
  refine topE (v' := nI (1)) (bI_t hkey) ?_
  refine lv_istore (lv' := [(9, .int (nI (1))), (8, .int (iI (sZ (fun j => ((sT v j - sG v j).natAbs : Int)) 64))), (7, .int (nI (sPi v))), (6, .int (nI (sBi v))), (5, .int (nI (0))), (4, .int (nI (BITS v))), (3, .int (iI (-1))), (0, .ref (a 0)), (1, .int (nI (1))), (2, .ref oa)]) hx hb dL_isNextSo_36 hl (by decide) rfl (fun ls hl => ?_)
  refine lv_iconst (v := nI (0)) hx hb dL_isNextSo_38 (by decide) ?_
  refine lv_istore (lv' := [(10, .int (nI (0))), (9, .int (nI (1))), (8, .int (iI (sZ (fun j => ((sT v j - sG v j).natAbs : Int)) 64))), (7, .int (nI (sPi v))), (6, .int (nI (sBi v))), (5, .int (nI (0))), (4, .int (nI (BITS v))), (3, .int (iI (-1))), (0, .ref (a 0)), (1, .int (nI (1))), (2, .ref oa)]) hx hb dL_isNextSo_39 hl (by decide) rfl (fun ls hl => ?_)
  have L_41 : ∀ (n_41 : Nat) (i : Nat), 4 - i < n_41 → (i ≤ 4) → ∀ (locs : List Loc) (ls : Array Slot), va_S A s.heap H locs → lv_has ls 12 [(0, .ref (a 0)), (1, .int (nI (1))), (2, .ref oa), (3, .int (iI (-1))), (4, .int (nI (BITS v))), (5, .int (nI (66 * i))), (6, .int (nI (sBi v))), (7, .int (nI (sPi v))), (8, .int (iI (sZ (fun j => ((sT v j - sG v j).natAbs : Int)) 64))), (9, .int (nI (1))), (10, .int (nI (i)))] → W pg l ev ({ frames := 9, cells := 1, slots := 6, locals := 168 } : Room) s m (([.ref (a 0), .int (nI (1)), .ref oa] : List Value).toArray) below meth c H locs 0 0 (MQ below (va_Qi (fun (r : Int32) (u : JT × (Nat → Int32)) => r = nI 1 ∧ OKJ u.1 ∧ jH u.1 = rbH (jH j) v) (fun (u : JT × (Nat → Int32)) t9 => PP G (oW G a v u.1 ++ ouW G oa u.2) t9.heap) A) (([.ref (a 0), .int (nI (1)), .ref oa] : List Value).toArray) s 1 6 A) (F0 m 41 ls []) := by
    intro n_41
    induction n_41 with
    | zero => intro i hn; exact absurd hn (Nat.not_lt_zero _)
    | succ n_41 ih_41 =>
      intro i hn_41 hi9 locs ls hS hl
      refine lv_iload hx hb dL_isNextSo_41 (lv_at hl 10 rfl) ?_
      refine lv_iconst (v := nI (4)) hx hb dL_isNextSo_43 (by decide) ?_
      refine lv_icmp_ge (tgt := 75) hx hb dL_isNextSo_44 (by decide) (fun c_7 => ?_) (fun c_7 => ?_)
      · have f_8 : (4 : Int) ≤ ((i : Nat) : Int) := (c_le (nI_toInt (n := 4) (by omega)) (nI_toInt (n := i) (by omega))).mp c_7
        have e_i : i = 4 := by omega
        replace e_i := e_i.symm
        subst e_i
        refine lv_iload hx hb dL_isNextSo_75 (lv_at hl 9 rfl) ?_
        refine lv_iload_n hx hb dL_isNextSo_77 rfl (lv_at hl 3 rfl) ?_
        refine lv_iconst (v := iI (-1)) hx hb dL_isNextSo_78 (by decide) ?_
        refine lv_icmp_ne (tgt := 86) hx hb dL_isNextSo_79 (by decide) (fun c_9 => ?_) (fun c_9 => ?_)
        · have f_10 := c_9
          exact absurd rfl f_10
        · have f_11 := c_9
          refine lv_iconst (v := nI (1)) hx hb dL_isNextSo_82 (by decide) ?_
          refine lv_goto (tgt := 87) hx hb dL_isNextSo_83 (by decide) ?_
          refine lv_icmp_ne (tgt := 131) hx hb dL_isNextSo_87 (by decide) (fun c_12 => ?_) (fun c_12 => ?_)
          · have f_13 := c_12
            exact absurd rfl f_13
          · have f_14 := c_12
            refine lv_iload hx hb dL_isNextSo_90 (lv_at hl 4 rfl) ?_
            refine lv_iload hx hb dL_isNextSo_92 (lv_at hl 5 rfl) ?_
            refine lv_icmp_ne (tgt := 131) hx hb dL_isNextSo_94 (by decide) (fun c_15 => ?_) (fun c_15 => ?_)
            · have f_16 : ¬ ((BITS v : Nat) : Int) = ((66 * 4 : Nat) : Int) := fun z => c_15 ((c_eq (nI_toInt (n := BITS v) (by omega)) (nI_toInt (n := 66 * 4) (by omega))).mpr z)
              exfalso; omega
            · have f_17 : ((BITS v : Nat) : Int) = ((66 * 4 : Nat) : Int) := (c_eq (nI_toInt (n := BITS v) (by omega)) (nI_toInt (n := 66 * 4) (by omega))).mp c_15
              refine lv_iload hx hb dL_isNextSo_97 (lv_at hl 4 rfl) ?_
              refine lv_iconst (v := nI (4)) hx hb dL_isNextSo_99 (by decide) ?_
              refine lv_icmp_lt (tgt := 131) hx hb dL_isNextSo_100 (by decide) (fun c_18 => ?_) (fun c_18 => ?_)
              · have f_19 : ((BITS v : Nat) : Int) < (4 : Int) := (c_lt (nI_toInt (n := BITS v) (by omega)) (nI_toInt (n := 4) (by omega))).mp c_18
                exfalso; omega
              · have f_20 : ¬ ((BITS v : Nat) : Int) < (4 : Int) := fun z => c_18 ((c_lt (nI_toInt (n := BITS v) (by omega)) (nI_toInt (n := 4) (by omega))).mpr z)
                refine lv_iload hx hb dL_isNextSo_103 (lv_at hl 4 rfl) ?_
                refine lv_sipush (v := nI (264)) hx hb dL_isNextSo_105 (by decide) ?_
                refine lv_icmp_gt (tgt := 131) hx hb dL_isNextSo_108 (by decide) (fun c_21 => ?_) (fun c_21 => ?_)
                · have f_22 : (264 : Int) < ((BITS v : Nat) : Int) := (c_lt (nI_toInt (n := 264) (by omega)) (nI_toInt (n := BITS v) (by omega))).mp c_21
                  exfalso; omega
                · have f_23 : ¬ (264 : Int) < ((BITS v : Nat) : Int) := fun z => c_21 ((c_lt (nI_toInt (n := 264) (by omega)) (nI_toInt (n := BITS v) (by omega))).mpr z)
                  refine lv_iload hx hb dL_isNextSo_111 (lv_at hl 9 rfl) ?_
                  refine lv_if_ne (tgt := 127) hx hb dL_isNextSo_113 (by decide) (fun c_24 => ?_) (fun c_24 => ?_)
                  · have f_25 : ¬ (1 : Int) = (0 : Int) := fun z => c_24 ((c_eq (nI_toInt (n := 1) (by omega)) rfl).mpr z)
                    refine lv_iconst (v := nI (1)) hx hb dL_isNextSo_127 (by decide) ?_
                    refine lv_goto (tgt := 132) hx hb dL_isNextSo_128 (by decide) ?_
                    refine lv_istore (lv' := [(10, .int (nI (1))), (0, .ref (a 0)), (1, .int (nI (1))), (2, .ref oa), (3, .int (iI (-1))), (4, .int (nI (BITS v))), (5, .int (nI (66 * 4))), (6, .int (nI (sBi v))), (7, .int (nI (sPi v))), (8, .int (iI (sZ (fun j => ((sT v j - sG v j).natAbs : Int)) 64))), (9, .int (nI (1)))]) hx hb dL_isNextSo_132 hl (by decide) rfl (fun ls hl => ?_)
                    refine lv_aload_n hx hb dL_isNextSo_134 rfl (lv_at hl 1 rfl) ?_
                    refine lv_iconst (v := nI (3)) hx hb dL_isNextSo_135 (by decide) ?_
                    refine lv_iload_n hx hb dL_isNextSo_136 rfl (lv_at hl 2 rfl) ?_
                    refine lv_if_eq (tgt := 144) hx hb dL_isNextSo_137 (by decide) (fun c_26 => ?_) (fun c_26 => ?_)
                    · have f_27 : (1 : Int) = (0 : Int) := (c_eq (nI_toInt (n := 1) (by omega)) rfl).mp c_26
                      exfalso; omega
                    · have f_28 : ¬ (1 : Int) = (0 : Int) := fun z => c_26 ((c_eq (nI_toInt (n := 1) (by omega)) rfl).mpr z)
                      refine lv_iconst (v := nI (1)) hx hb dL_isNextSo_140 (by decide) ?_
                      refine lv_goto (tgt := 145) hx hb dL_isNextSo_141 (by decide) ?_
                      refine lv_iconst (v := nI (0)) hx hb dL_isNextSo_145 (by decide) ?_
                      refine lv_iconst (v := nI (0)) hx hb dL_isNextSo_146 (by decide) ?_
                      refine lv_aload_n hx hb dL_isNextSo_147 rfl (lv_at hl 3 rfl) ?_
                      refine kWi (vx_runSW (As := [.ref (a 0), .int (nI (3)), .int (nI (1)), .int (nI (0)), .int (nI (0)), .ref oa]) (rest := []) ⟨hx, hb, hml, hown, hts⟩ (o_chg_3 a v u_4 oa of (nI (1)) (nI (0)) (nI (0)) (Or.inr rfl) hv0 (by omega) hjj hfl hP (hD.weaken (fun _ _ _ h => hLo _ h))) (vx_cwSW 6 hts gL_isNextSo_L_changes rfl rfl rfl (by decide +kernel) ⟨(Nat.le_of_ble_eq_true rfl), (Nat.le_of_ble_eq_true rfl)⟩) (preSX hCX hS hLo) rfl rfl hl.1 rfl (lv_room (Nat.le_of_ble_eq_true rfl)) dL_isNextSo_148 ⟨(Nat.le_of_ble_eq_true rfl), (Nat.le_of_ble_eq_true rfl)⟩) hP hD hS hA (fun _ => ou_fst) (fun r_29 u_30 H locs q_31 hP hD hS => ?_)
                      obtain ⟨v1, j1, of1⟩ := u_30
                      obtain ⟨qr, q2, _⟩ := q_31
                      obtain ⟨mo, hmo1, hu1, hj1, hjh1, hof⟩ := q2 rfl
                      have hu1 : v1 = sndV 1 v mo := hu1.trans (by show sndV (nI 1).toInt.toNat v mo = _; rw [show (nI 1).toInt.toNat = 1 by decide])
                      subst hu1
                      have hj1 : OKJ j1 := hj1
                      have hjh1 : jH j1 = rcH (jH j) v := hjh1.trans (by rw [hje])
                      obtain ⟨hvs, hps, hpi1, hbi1⟩ := snd_ok (mo := mo) (lost := 1) hv0 hpc0 (by omega)
                      have hP : PP G (oW G a (sndV 1 v mo) j1 ++ ouW G oa of1) H := hP
                      have hD : va_D A (oW G a (sndV 1 v mo) j1 ++ ouW G oa of1) := hD
                      refine topE (v' := nI 0) qr ?_
                      refine lv_istore (lv' := [(11, .int (nI (0))), (10, .int (nI (1))), (0, .ref (a 0)), (1, .int (nI (1))), (2, .ref oa), (3, .int (iI (-1))), (4, .int (nI (BITS v))), (5, .int (nI (66 * 4))), (6, .int (nI (sBi v))), (7, .int (nI (sPi v))), (8, .int (iI (sZ (fun j => ((sT v j - sG v j).natAbs : Int)) 64))), (9, .int (nI (1)))]) hx hb dL_isNextSo_151 hl (by decide) rfl (fun ls hl => ?_)
                      refine lv_iload hx hb dL_isNextSo_153 (lv_at hl 1 rfl) ?_
                      refine lv_if_eq (tgt := 226) hx hb dL_isNextSo_155 (by decide) (fun c_32 => ?_) (fun c_32 => ?_)
                      · have f_33 : (1 : Int) = (0 : Int) := (c_eq (nI_toInt (n := 1) (by omega)) rfl).mp c_32
                        exfalso; omega
                      · have f_34 : ¬ (1 : Int) = (0 : Int) := fun z => c_32 ((c_eq (nI_toInt (n := 1) (by omega)) rfl).mpr z)
                        refine lv_iload hx hb dL_isNextSo_158 (lv_at hl 0 rfl) ?_
                        refine lv_if_ne (tgt := 226) hx hb dL_isNextSo_160 (by decide) (fun c_35 => ?_) (fun c_35 => ?_)
                        · have f_36 : ¬ (0 : Int) = (0 : Int) := fun z => c_35 ((c_eq (nI_toInt (n := 0) (by omega)) rfl).mpr z)
                          exfalso; omega
                        · have f_37 : (0 : Int) = (0 : Int) := (c_eq (nI_toInt (n := 0) (by omega)) rfl).mp c_35
                          refine lv_aload_n hx hb dL_isNextSo_163 rfl (lv_at hl 4 rfl) ?_
                          refine lv_iconst (v := nI (0)) hx hb dL_isNextSo_164 (by decide) ?_
                          refine gIald (j := 0) hx hb hC.K (PP_r hP) 0 0 rfl rfl rfl (by decide) (by decide) dL_isNextSo_165 ?_
                          refine topE (v' := nI (BITS v)) (hof) ?_
                          refine lv_iload hx hb dL_isNextSo_166 (lv_at hl 6 rfl) ?_
                          refine lv_icmp_ne (tgt := 226) hx hb dL_isNextSo_168 (by decide) (fun c_38 => ?_) (fun c_38 => ?_)
                          · have f_39 := c_38
                            exact absurd rfl f_39
                          · have f_40 := c_38
                            refine lv_aload_n hx hb dL_isNextSo_171 rfl (lv_at hl 2 rfl) ?_
                            refine kPi (va_runV (As := []) (rest := []) ⟨hx, hb, hml, hown, hts⟩ (c_X8_bitCount a (sndV 1 v mo) (oW_now (PP_l hP))) (cwV 0 hts gL_isNextSo_X8_bitCount rfl rfl rfl (by decide +kernel) ⟨(Nat.le_of_ble_eq_true rfl), (Nat.le_of_ble_eq_true rfl)⟩) (preV hC hS hLo (oW_obj (PP_l hP)) (ci := 7) (q0 := 0) rfl rfl) rfl rfl hl.1 rfl (lv_room (Nat.le_of_ble_eq_true rfl)) dL_isNextSo_172 ⟨(Nat.le_of_ble_eq_true rfl), (Nat.le_of_ble_eq_true rfl)⟩) hS (fun locs hS => ?_)
                            refine topE (v' := nI ((sBi v) + (BITS v))) (congrArg nI hbi1) ?_
                            refine lv_iload hx hb dL_isNextSo_175 (lv_at hl 8 rfl) ?_
                            refine lv_iload hx hb dL_isNextSo_177 (lv_at hl 6 rfl) ?_
                            refine gAdd (z := nI ((sBi v) + (BITS v))) hx hb dL_isNextSo_179 (nI_add _ _) ?_
                            refine lv_icmp_ne (tgt := 226) hx hb dL_isNextSo_180 (by decide) (fun c_41 => ?_) (fun c_41 => ?_)
                            · have f_42 := c_41
                              exact absurd rfl f_42
                            · have f_43 := c_41
                              refine lv_aload_n hx hb dL_isNextSo_183 rfl (lv_at hl 2 rfl) ?_
                              refine kPi (va_runV (As := []) (rest := []) ⟨hx, hb, hml, hown, hts⟩ (c_X8_pictureCount a (sndV 1 v mo) (oW_now (PP_l hP))) (cwV 0 hts gL_isNextSo_X8_pictureCount rfl rfl rfl (by decide +kernel) ⟨(Nat.le_of_ble_eq_true rfl), (Nat.le_of_ble_eq_true rfl)⟩) (preV hC hS hLo (oW_obj (PP_l hP)) (ci := 7) (q0 := 0) rfl rfl) rfl rfl hl.1 rfl (lv_room (Nat.le_of_ble_eq_true rfl)) dL_isNextSo_184 ⟨(Nat.le_of_ble_eq_true rfl), (Nat.le_of_ble_eq_true rfl)⟩) hS (fun locs hS => ?_)
                              refine topE (v' := nI ((sPi v) + 1)) (congrArg nI hpi1) ?_
                              refine lv_iload hx hb dL_isNextSo_187 (lv_at hl 9 rfl) ?_
                              refine lv_iconst (v := nI (1)) hx hb dL_isNextSo_189 (by decide) ?_
                              refine gAdd (z := nI ((sPi v) + 1)) hx hb dL_isNextSo_190 (nI_add _ _) ?_
                              refine lv_icmp_ne (tgt := 226) hx hb dL_isNextSo_191 (by decide) (fun c_44 => ?_) (fun c_44 => ?_)
                              · have f_45 := c_44
                                exact absurd rfl f_45
                              · have f_46 := c_44
                                refine lv_iload_n hx hb dL_isNextSo_194 rfl (lv_at hl 5 rfl) ?_
                                refine lv_iconst (v := nI (1)) hx hb dL_isNextSo_195 (by decide) ?_
                                refine lv_icmp_gt (tgt := 206) hx hb dL_isNextSo_196 (by decide) (fun c_47 => ?_) (fun c_47 => ?_)
                                · have f_48 : (1 : Int) < (-1) := (c_lt (nI_toInt (n := 1) (by omega)) (iI_toInt (by omega) (by omega))).mp c_47
                                  exfalso; omega
                                · have f_49 : ¬ (1 : Int) < (-1) := fun z => c_47 ((c_lt (nI_toInt (n := 1) (by omega)) (iI_toInt (by omega) (by omega))).mpr z)
                                  refine lv_aload_n hx hb dL_isNextSo_199 rfl (lv_at hl 2 rfl) ?_
                                  refine kPi (va_runV (As := []) (rest := []) ⟨hx, hb, hml, hown, hts⟩ (c_X8_error a (sndV 1 v mo) hvs.1 hvs.2.1 hvs.2.2.1 (oW_now (PP_l hP))) (cwV 0 hts gL_isNextSo_X8_error rfl rfl rfl (by decide +kernel) ⟨(Nat.le_of_ble_eq_true rfl), (Nat.le_of_ble_eq_true rfl)⟩) (preV hC hS hLo (oW_obj (PP_l hP)) (ci := 7) (q0 := 0) rfl rfl) rfl rfl hl.1 rfl (lv_room (Nat.le_of_ble_eq_true rfl)) dL_isNextSo_200 ⟨(Nat.le_of_ble_eq_true rfl), (Nat.le_of_ble_eq_true rfl)⟩) hS (fun locs hS => ?_)
                                  refine topE (v' := nI (0)) ((congrArg iI (snd_err (by omega))).trans (nI_i 0).symm) ?_
                                  refine lv_if_ne (tgt := 226) hx hb dL_isNextSo_203 (by decide) (fun c_50 => ?_) (fun c_50 => ?_)
                                  · have f_51 : ¬ (0 : Int) = (0 : Int) := fun z => c_50 ((c_eq (nI_toInt (n := 0) (by omega)) rfl).mpr z)
                                    exfalso; omega
                                  · have f_52 : (0 : Int) = (0 : Int) := (c_eq (nI_toInt (n := 0) (by omega)) rfl).mp c_50
                                    refine lv_iload hx hb dL_isNextSo_206 (lv_at hl 11 rfl) ?_
                                    refine lv_if_eq (tgt := 222) hx hb dL_isNextSo_208 (by decide) (fun c_53 => ?_) (fun c_53 => ?_)
                                    · have f_54 : (1 : Int) = (0 : Int) := (c_eq (nI_toInt (n := 1) (by omega)) rfl).mp c_53
                                      exfalso; omega
                                    · have f_55 : ¬ (1 : Int) = (0 : Int) := fun z => c_53 ((c_eq (nI_toInt (n := 1) (by omega)) rfl).mpr z)
                                      refine lv_iload_n hx hb dL_isNextSo_211 rfl (lv_at hl 3 rfl) ?_
                                      refine lv_if_ne (tgt := 222) hx hb dL_isNextSo_212 (by decide) (fun c_56 => ?_) (fun c_56 => ?_)
                                      · have f_57 : ¬ (1 : Int) = (0 : Int) := fun z => c_56 ((c_eq (nI_toInt (n := 1) (by omega)) rfl).mpr z)
                                        refine lv_iconst (v := nI (1)) hx hb dL_isNextSo_222 (by decide) ?_
                                        refine lv_goto (tgt := 227) hx hb dL_isNextSo_223 (by decide) ?_
                                        refine lv_istore (lv' := [(10, .int (nI (1))), (11, .int (nI (0))), (0, .ref (a 0)), (1, .int (nI (1))), (2, .ref oa), (3, .int (iI (-1))), (4, .int (nI (BITS v))), (5, .int (nI (66 * 4))), (6, .int (nI (sBi v))), (7, .int (nI (sPi v))), (8, .int (iI (sZ (fun j => ((sT v j - sG v j).natAbs : Int)) 64))), (9, .int (nI (1)))]) hx hb dL_isNextSo_227 hl (by decide) rfl (fun ls hl => ?_)
                                        refine lv_iload hx hb dL_isNextSo_229 (lv_at hl 11 rfl) ?_
                                        refine lv_if_ne (tgt := 267) hx hb dL_isNextSo_231 (by decide) (fun c_58 => ?_) (fun c_58 => ?_)
                                        · have f_59 : ¬ (1 : Int) = (0 : Int) := fun z => c_58 ((c_eq (nI_toInt (n := 1) (by omega)) rfl).mpr z)
                                          refine lv_iload hx hb dL_isNextSo_267 (lv_at hl 0 rfl) ?_
                                          refine lv_if_eq (tgt := 310) hx hb dL_isNextSo_269 (by decide) (fun c_60 => ?_) (fun c_60 => ?_)
                                          · have f_61 : (1 : Int) = (0 : Int) := (c_eq (nI_toInt (n := 1) (by omega)) rfl).mp c_60
                                            exfalso; omega
                                          · have f_62 : ¬ (1 : Int) = (0 : Int) := fun z => c_60 ((c_eq (nI_toInt (n := 1) (by omega)) rfl).mpr z)
                                            refine lv_aload_n hx hb dL_isNextSo_272 rfl (lv_at hl 2 rfl) ?_
                                            refine kPreI (va_runV (As := []) (rest := []) ⟨hx, hb, hml, hown, hts⟩ (o_undo a (sndV 1 v mo) j1 (jH j) v hj.2.2.1 hj1 hjh1 (PP_l hP) ((pre_D hD).weaken (fun _ _ _ h => hLo _ h))) (cwV 0 hts gL_isNextSo_X8_undo rfl rfl rfl (by decide +kernel) ⟨(Nat.le_of_ble_eq_true rfl), (Nat.le_of_ble_eq_true rfl)⟩) (preV hC hS hLo (oW_obj (PP_l hP)) (ci := 7) (q0 := 0) rfl rfl) rfl rfl hl.1 rfl (lv_room (Nat.le_of_ble_eq_true rfl)) dL_isNextSo_273 ⟨(Nat.le_of_ble_eq_true rfl), (Nat.le_of_ble_eq_true rfl)⟩) hP hD hS hA (fun _ => oW_fst) (fun r_65 u_63 H locs q_64 hP hD hS => ?_)
                                            have hP : PP G (oW G a v u_63 ++ ouW G oa of1) H := hP
                                            have hD : va_D A (oW G a v u_63 ++ ouW G oa of1) := hD
                                            have hjj := q_64.2.1
                                            have hje := q_64.2.2
                                            refine topE (v' := nI (min ((jH j).2.1 + 1) 6 - 1)) (q_64.1) ?_
                                            refine lv_if_lt (tgt := 310) hx hb dL_isNextSo_276 (by decide) (fun c_66 => ?_) (fun c_66 => ?_)
                                            · have f_67 : ((min ((jH j).2.1 + 1) 6 - 1 : Nat) : Int) < (0 : Int) := (c_lt (nI_toInt (n := min ((jH j).2.1 + 1) 6 - 1) (by omega)) rfl).mp c_66
                                              exfalso; omega
                                            · have f_68 : ¬ ((min ((jH j).2.1 + 1) 6 - 1 : Nat) : Int) < (0 : Int) := fun z => c_66 ((c_lt (nI_toInt (n := min ((jH j).2.1 + 1) 6 - 1) (by omega)) rfl).mpr z)
                                              refine lv_aload_n hx hb dL_isNextSo_279 rfl (lv_at hl 2 rfl) ?_
                                              refine kPi (va_runV (As := []) (rest := []) ⟨hx, hb, hml, hown, hts⟩ (c_X8_pictureCount a v (oW_now (PP_l hP))) (cwV 0 hts gL_isNextSo_X8_pictureCount rfl rfl rfl (by decide +kernel) ⟨(Nat.le_of_ble_eq_true rfl), (Nat.le_of_ble_eq_true rfl)⟩) (preV hC hS hLo (oW_obj (PP_l hP)) (ci := 7) (q0 := 0) rfl rfl) rfl rfl hl.1 rfl (lv_room (Nat.le_of_ble_eq_true rfl)) dL_isNextSo_280 ⟨(Nat.le_of_ble_eq_true rfl), (Nat.le_of_ble_eq_true rfl)⟩) hS (fun locs hS => ?_)
                                              refine topE (v' := nI (sPi v)) (rfl) ?_
                                              refine lv_iload hx hb dL_isNextSo_283 (lv_at hl 9 rfl) ?_
                                              refine lv_icmp_ne (tgt := 310) hx hb dL_isNextSo_285 (by decide) (fun c_69 => ?_) (fun c_69 => ?_)
                                              · have f_70 := c_69
                                                exact absurd rfl f_70
                                              · have f_71 := c_69
                                                refine lv_aload_n hx hb dL_isNextSo_288 rfl (lv_at hl 2 rfl) ?_
                                                refine kPi (va_runV (As := []) (rest := []) ⟨hx, hb, hml, hown, hts⟩ (c_X8_drift a v hd ht hg (oW_now (PP_l hP))) (cwV 0 hts gL_isNextSo_X8_drift rfl rfl rfl (by decide +kernel) ⟨(Nat.le_of_ble_eq_true rfl), (Nat.le_of_ble_eq_true rfl)⟩) (preV hC hS hLo (oW_obj (PP_l hP)) (ci := 7) (q0 := 0) rfl rfl) rfl rfl hl.1 rfl (lv_room (Nat.le_of_ble_eq_true rfl)) dL_isNextSo_289 ⟨(Nat.le_of_ble_eq_true rfl), (Nat.le_of_ble_eq_true rfl)⟩) hS (fun locs hS => ?_)
                                                refine topE (v' := iI (sZ (fun j => ((sT v j - sG v j).natAbs : Int)) 64)) (rfl) ?_
                                                refine lv_iload hx hb dL_isNextSo_292 (lv_at hl 10 rfl) ?_
                                                refine lv_icmp_ne (tgt := 310) hx hb dL_isNextSo_294 (by decide) (fun c_72 => ?_) (fun c_72 => ?_)
                                                · have f_73 := c_72
                                                  exact absurd rfl f_73
                                                · have f_74 := c_72
                                                  refine lv_aload_n hx hb dL_isNextSo_297 rfl (lv_at hl 2 rfl) ?_
                                                  refine kPreI (va_runV (As := []) (rest := []) ⟨hx, hb, hml, hown, hts⟩ (o_bitsNext a v u_63 hv0 (by omega) hjj (PP_l hP) ((pre_D hD).weaken (fun _ _ _ h => hLo _ h))) (cwV 0 hts gL_isNextSo_X8_bitsNext rfl rfl rfl (by decide +kernel) ⟨(Nat.le_of_ble_eq_true rfl), (Nat.le_of_ble_eq_true rfl)⟩) (preV hC hS hLo (oW_obj (PP_l hP)) (ci := 7) (q0 := 0) rfl rfl) rfl rfl hl.1 rfl (lv_room (Nat.le_of_ble_eq_true rfl)) dL_isNextSo_298 ⟨(Nat.le_of_ble_eq_true rfl), (Nat.le_of_ble_eq_true rfl)⟩) hP hD hS hA (fun _ => oW_fst) (fun r_77 u_75 H locs q_76 hP hD hS => ?_)
                                                  have hP : PP G (oW G a v u_75 ++ ouW G oa of1) H := hP
                                                  have hD : va_D A (oW G a v u_75 ++ ouW G oa of1) := hD
                                                  have hje := q_76.2.2.trans hje
                                                  have hjj := q_76.2.1
                                                  refine topE (v' := nI (BITS v)) (q_76.1) ?_
                                                  refine lv_iload hx hb dL_isNextSo_301 (lv_at hl 6 rfl) ?_
                                                  refine lv_icmp_ne (tgt := 310) hx hb dL_isNextSo_303 (by decide) (fun c_78 => ?_) (fun c_78 => ?_)
                                                  · have f_79 := c_78
                                                    exact absurd rfl f_79
                                                  · have f_80 := c_78
                                                    refine lv_iconst (v := nI (1)) hx hb dL_isNextSo_306 (by decide) ?_
                                                    refine lv_goto (tgt := 311) hx hb dL_isNextSo_307 (by decide) ?_
                                                    exact xMi (G := G) (post := (fun (r : Int32) (u : JT × (Nat → Int32)) => r = nI 1 ∧ OKJ u.1 ∧ jH u.1 = rbH (jH j) v)) (w1 := (fun (u : JT × (Nat → Int32)) => oW G a v u.1 ++ ouW G oa u.2)) ((u_75, of1)) hx hb hr hlocks hP hS (by exact ⟨rfl, hjj, hje⟩) (by exact rfl) dL_isNextSo_311
                                        · have f_81 : (1 : Int) = (0 : Int) := (c_eq (nI_toInt (n := 1) (by omega)) rfl).mp c_58
                                          exfalso; omega
                                      · have f_82 : (1 : Int) = (0 : Int) := (c_eq (nI_toInt (n := 1) (by omega)) rfl).mp c_56
                                        exfalso; omega
                  · have f_83 : (1 : Int) = (0 : Int) := (c_eq (nI_toInt (n := 1) (by omega)) rfl).mp c_24
                    exfalso; omega
      · have f_84 : ¬ (4 : Int) ≤ ((i : Nat) : Int) := fun z => c_7 ((c_le (nI_toInt (n := 4) (by omega)) (nI_toInt (n := i) (by omega))).mpr z)
        refine lv_iload hx hb dL_isNextSo_47 (lv_at hl 5 rfl) ?_
        refine lv_iload hx hb dL_isNextSo_49 (lv_at hl 9 rfl) ?_
        refine lv_if_eq (tgt := 59) hx hb dL_isNextSo_51 (by decide) (fun c_85 => ?_) (fun c_85 => ?_)
        · have f_86 : (1 : Int) = (0 : Int) := (c_eq (nI_toInt (n := 1) (by omega)) rfl).mp c_85
          exfalso; omega
        · have f_87 : ¬ (1 : Int) = (0 : Int) := fun z => c_85 ((c_eq (nI_toInt (n := 1) (by omega)) rfl).mpr z)
          refine lv_bipush (v := nI (66)) hx hb dL_isNextSo_54 (by decide) ?_
          refine lv_goto (tgt := 66) hx hb dL_isNextSo_56 (by decide) ?_
          refine gAdd (z := nI ((66 * i) + 66)) hx hb dL_isNextSo_66 (nI_add _ _) ?_
          refine lv_istore (lv' := [(5, .int (nI ((66 * i) + 66))), (0, .ref (a 0)), (1, .int (nI (1))), (2, .ref oa), (3, .int (iI (-1))), (4, .int (nI (BITS v))), (6, .int (nI (sBi v))), (7, .int (nI (sPi v))), (8, .int (iI (sZ (fun j => ((sT v j - sG v j).natAbs : Int)) 64))), (9, .int (nI (1))), (10, .int (nI (i)))]) hx hb dL_isNextSo_67 hl (by decide) rfl (fun ls hl => ?_)
          refine lv_iinc (v := nI (i + 1)) (lv' := [(10, .int (nI (i + 1))), (5, .int (nI ((66 * i) + 66))), (0, .ref (a 0)), (1, .int (nI (1))), (2, .ref oa), (3, .int (iI (-1))), (4, .int (nI (BITS v))), (6, .int (nI (sBi v))), (7, .int (nI (sPi v))), (8, .int (iI (sZ (fun j => ((sT v j - sG v j).natAbs : Int)) 64))), (9, .int (nI (1)))]) hx hb dL_isNextSo_69 hl (k := 10) rfl (inc_p i 1) (by decide) rfl (fun ls hl => ?_)
          refine lv_goto (tgt := 41) hx hb dL_isNextSo_72 (by decide) ?_
          exact ih_41 (i + 1) (by omega) (by omega) locs ls hS (lv_sub hl [2, 3, 4, 5, 6, 1, 7, 8, 9, 10, 0] ((lvc rfl (lvc rfl (lvc rfl (lvc rfl (lvc rfl (lvc (congrArg Value.int (congrArg nI (by omega))) (lvc rfl (lvc rfl (lvc rfl (lvc rfl (lvc (congrArg Value.int (rfl)) rfl)))))))))))))
  exact L_41 (4 + 1) 0 (Nat.lt_succ_self _) (by omega) locs ls hS (lv_sub hl [8, 9, 10, 7, 6, 5, 4, 3, 2, 1, 0] (lvc rfl (lvc rfl (lvc rfl (lvc rfl (lvc rfl (lvc (congrArg Value.int (rfl)) (lvc rfl (lvc rfl (lvc rfl (lvc rfl (lvc rfl rfl))))))))))))
