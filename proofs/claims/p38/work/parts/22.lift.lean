/-! ===== a contract over a larger world, with another end ===== -/
theorem metMapI {S S' : Type} {G : GT} {l : Launch} {y : MethodName} {W : List Cond} {rm : Room} {as : List Value} {H0 : Heap} {post : Int32 → S → Prop} {post' : Int32 → S' → Prop} {w1 : S → va_W} {w2 : S' → va_W} {wc ws : va_W} {mc ms : Nat}
    (hM : Met l y W rm (pcG G as H0) (qMi G post w1 wc H0) mc ms (va_A wc H0.size)) (hA : ∀ q, va_A wc H0.size q → va_A ws H0.size q)
    (hW : ∀ (r : Int32) (u : S) (H1 : Heap), (∀ q : Nat, q < H0.size → ¬ va_A wc H0.size q → H1[q]? = H0[q]?) → post r u → PP G (w1 u) H1 → ∃ u' : S', post' r u' ∧ PP G (w2 u') H1) :
    Met l y W rm (pcG G as H0) (qMi G post' w2 ws H0) mc ms (va_A ws H0.size) := by
  intro p e ha hc hk s m args below hf happ hP hK
  obtain ⟨n, o, h1, h2, h3, ⟨⟨r, u, e1, e2, e3⟩, hF⟩, L, hfe, hL⟩ := hM p e ha hc hk s m args below hf happ hP hK
  have hH : s.heap = H0 := hP.2.1
  obtain ⟨u', f1, f2⟩ := hW r u _ (fun q hq hn => by have h9 := hF.2 q (by rw [hH]; exact hq) hn; rw [hH] at h9; exact h9) e2 e3
  exact ⟨n, o, h1, h2, h3, ⟨⟨r, u', e1, f1, f2⟩, hF.1, fun q h5 h6 => hF.2 q h5 (fun z => h6 (hA q z))⟩, L, hfe, fun q hq => hA _ (hL q hq)⟩
theorem metMapV {S S' : Type} {G : GT} {l : Launch} {y : MethodName} {W : List Cond} {rm : Room} {as : List Value} {H0 : Heap} {post : S → Prop} {post' : S' → Prop} {w1 : S → va_W} {w2 : S' → va_W} {wc ws : va_W} {mc ms : Nat}
    (hM : Met l y W rm (pcG G as H0) (qMv G post w1 wc H0) mc ms (va_A wc H0.size)) (hA : ∀ q, va_A wc H0.size q → va_A ws H0.size q)
    (hW : ∀ (u : S) (H1 : Heap), (∀ q : Nat, q < H0.size → ¬ va_A wc H0.size q → H1[q]? = H0[q]?) → post u → PP G (w1 u) H1 → ∃ u' : S', post' u' ∧ PP G (w2 u') H1) :
    Met l y W rm (pcG G as H0) (qMv G post' w2 ws H0) mc ms (va_A ws H0.size) := by
  intro p e ha hc hk s m args below hf happ hP hK
  obtain ⟨n, o, h1, h2, h3, ⟨⟨u, e1, e2, e3⟩, hF⟩, L, hfe, hL⟩ := hM p e ha hc hk s m args below hf happ hP hK
  have hH : s.heap = H0 := hP.2.1
  obtain ⟨u', f1, f2⟩ := hW u _ (fun q hq hn => by have h9 := hF.2 q (by rw [hH]; exact hq) hn; rw [hH] at h9; exact h9) e2 e3
  exact ⟨n, o, h1, h2, h3, ⟨⟨u', e1, f1, f2⟩, hF.1, fun q h5 h6 => hF.2 q h5 (fun z => h6 (hA q z))⟩, L, hfe, fun q hq => hA _ (hL q hq)⟩
theorem va_A_sub {wc ws : va_W} {n : Nat} (h : ∀ q, q ∈ wc → q ∈ ws) : ∀ q, va_A wc n q → va_A ws n q := by
  rintro q (⟨k, e, he⟩ | hz)
  · obtain ⟨k2, hk2⟩ := List.mem_iff_getElem?.mp (h _ (List.mem_of_getElem? he))
    exact Or.inl ⟨k2, e, hk2⟩
  · exact Or.inr hz
/-- a part of a world -/
theorem PP_sub {G : GT} {H : Heap} {wc ws : va_W} (h : ∀ q, q ∈ wc → q ∈ ws) (hP : PP G ws H) : PP G wc H := va_P_mem.mpr fun q hq => va_P_mem.mp hP q (h q hq)
section XS
variable {G : GT} {H : Heap} {a : Nat → Nat} {v : SVT} {mo ki : Nat → Nat} {pr df : Nat → Int} {co : Int32} {bi : Nat} {g9 : Nat → Int32} {lr : Nat} {bf : Nat → Int} {tn : Nat → Nat} {ln nx ct : Nat} {hv : Nat → SVT} {v0 : SVT} {k0 : Nat} {v1 : SVT} {k1 : Nat}
theorem xW_now (h : PP G (xW G a v mo ki pr df co bi g9 lr bf tn ln nx ct hv v0 k0 v1 k1) H) : PP G ([(a 0, .inr (7, [.ref (a 1), .ref (a 10), .ref (a 16), .ref (a 18), .ref (a 20), .ref (a 22), .ref (a 78), .ref (a 88)]))] ++ stW G (a 1) (a 2) (a 3) (a 4) (a 5) (a 6) (a 7) (a 8) (a 9) v) H :=
  PP_sub (fun q hq => by
    unfold xW xoW
    rcases List.mem_append.mp hq with h | h
    · exact List.mem_append_left _ h
    · exact List.mem_append_right _ (List.mem_append_left _ h)) h
theorem xW_mid (h : PP G (xW G a v mo ki pr df co bi g9 lr bf tn ln nx ct hv v0 k0 v1 k1) H) : PP G (mdW G a mo ki pr df co bi g9 lr bf tn ln) H :=
  PP_sub (fun q hq => by unfold xW; exact List.mem_append_right _ (List.mem_append_right _ (List.mem_append_left _ hq))) h
theorem xW_hsW (h : PP G (xW G a v mo ki pr df co bi g9 lr bf tn ln nx ct hv v0 k0 v1 k1) H) : PP G (hsW G a nx ct hv) H :=
  PP_sub (fun q hq => by unfold xW; exact List.mem_append_right _ (List.mem_append_right _ (List.mem_append_right _ (List.mem_append_left _ hq)))) h
theorem xW_rrW (h : PP G (xW G a v mo ki pr df co bi g9 lr bf tn ln nx ct hv v0 k0 v1 k1) H) : PP G (rrW G a v0 k0 v1 k1) H :=
  PP_sub (fun q hq => by unfold xW; exact List.mem_append_right _ (List.mem_append_right _ (List.mem_append_right _ (List.mem_append_right _ hq)))) h
theorem xW_obj (h : PP G (xW G a v mo ki pr df co bi g9 lr bf tn ln nx ct hv v0 k0 v1 k1) H) : PP G (xoW a) H :=
  PP_sub (fun q hq => by unfold xW; exact List.mem_append_left _ hq) h
theorem PP_app {w1 w2 : va_W} (h1 : PP G w1 H) (h2 : PP G w2 H) : PP G (w1 ++ w2) H := va_P_mem.mpr fun q hq => (List.mem_append.mp hq).elim (fun h => va_P_mem.mp h1 q h) (fun h => va_P_mem.mp h2 q h)
theorem xW_txt (h : PP G (xW G a v mo ki pr df co bi g9 lr bf tn ln nx ct hv v0 k0 v1 k1) H) : PP G [(a 0, .inr (7, [.ref (a 1), .ref (a 10), .ref (a 16), .ref (a 18), .ref (a 20), .ref (a 22), .ref (a 78), .ref (a 88)])), (a 20, .inr (1, [.ref (a 21), .int (nI ln)])), (a 21, .inl (cC G, 80, .inl (fun z9 => nI (tn z9))))] H :=
  PP_app (w1 := [_]) (xW_obj h) (PP_sub (fun q hq => by unfold mdW; exact List.mem_append_right _ (by simp only [List.mem_cons, List.not_mem_nil, or_false] at hq ⊢; rcases hq with h | h <;> simp [h])) (xW_mid h))
theorem xW_his (h : PP G (xW G a v mo ki pr df co bi g9 lr bf tn ln nx ct hv v0 k0 v1 k1) H) : PP G [(a 0, .inr (7, [.ref (a 1), .ref (a 10), .ref (a 16), .ref (a 18), .ref (a 20), .ref (a 22), .ref (a 78), .ref (a 88)])), (a 22, .inr (2, [.ref (a 23), .int (nI nx), .int (nI ct)]))] H :=
  PP_app (w1 := [_]) (xW_obj h) (PP_sub (fun q hq => by unfold hsW; exact List.mem_append_left _ (by simp only [List.mem_cons, List.not_mem_nil, or_false] at hq ⊢; exact Or.inl hq)) (xW_hsW h))
theorem xW_sl0 (h : PP G (xW G a v mo ki pr df co bi g9 lr bf tn ln nx ct hv v0 k0 v1 k1) H) : PP G [(a 0, .inr (7, [.ref (a 1), .ref (a 10), .ref (a 16), .ref (a 18), .ref (a 20), .ref (a 22), .ref (a 78), .ref (a 88)])), (a 78, .inr (5, [.ref (a 79), .int (nI k0)]))] H :=
  PP_app (w1 := [_]) (xW_obj h) (PP_sub (fun q hq => by unfold rrW s0W; exact List.mem_append_left _ hq) (xW_rrW h))
theorem xW_sl1 (h : PP G (xW G a v mo ki pr df co bi g9 lr bf tn ln nx ct hv v0 k0 v1 k1) H) : PP G [(a 0, .inr (7, [.ref (a 1), .ref (a 10), .ref (a 16), .ref (a 18), .ref (a 20), .ref (a 22), .ref (a 78), .ref (a 88)])), (a 88, .inr (5, [.ref (a 89), .int (nI k1)]))] H :=
  PP_app (w1 := [_]) (xW_obj h) (PP_sub (fun q hq => by unfold rrW s1W; exact List.mem_append_right _ (List.mem_append_right _ (List.mem_append_left _ hq))) (xW_rrW h))
end XS
/-- the slots' cells, set apart -/
theorem xW_s0 (G : GT) (a : Nat → Nat) (v : SVT) (mo ki : Nat → Nat) (pr df : Nat → Int) (co : Int32) (bi : Nat) (g9 : Nat → Int32) (lr : Nat) (bf : Nat → Int) (tn : Nat → Nat) (ln nx ct : Nat) (hv : Nat → SVT) (v0 : SVT) (k0 : Nat) (v1 : SVT) (k1 : Nat) :
    xW G a v mo ki pr df co bi g9 lr bf tn ln nx ct hv v0 k0 v1 k1 = xoW a ++ (stW G (a 1) (a 2) (a 3) (a 4) (a 5) (a 6) (a 7) (a 8) (a 9) v ++ ((mdW G a mo ki pr df co bi g9 lr bf tn ln ++ hsW G a nx ct hv) ++ (s0W G a k0 ++ (stW G (a 79) (a 80) (a 81) (a 82) (a 83) (a 84) (a 85) (a 86) (a 87) v0 ++ (s1W G a k1 ++ stW G (a 89) (a 90) (a 91) (a 92) (a 93) (a 94) (a 95) (a 96) (a 97) v1))))) := by
  simp only [xW, rrW, List.append_assoc]
theorem xW_s1 (G : GT) (a : Nat → Nat) (v : SVT) (mo ki : Nat → Nat) (pr df : Nat → Int) (co : Int32) (bi : Nat) (g9 : Nat → Int32) (lr : Nat) (bf : Nat → Int) (tn : Nat → Nat) (ln nx ct : Nat) (hv : Nat → SVT) (v0 : SVT) (k0 : Nat) (v1 : SVT) (k1 : Nat) :
    xW G a v mo ki pr df co bi g9 lr bf tn ln nx ct hv v0 k0 v1 k1 = xoW a ++ (stW G (a 1) (a 2) (a 3) (a 4) (a 5) (a 6) (a 7) (a 8) (a 9) v ++ ((mdW G a mo ki pr df co bi g9 lr bf tn ln ++ (hsW G a nx ct hv ++ (s0W G a k0 ++ stW G (a 79) (a 80) (a 81) (a 82) (a 83) (a 84) (a 85) (a 86) (a 87) v0))) ++ (s1W G a k1 ++ (stW G (a 89) (a 90) (a 91) (a 92) (a 93) (a 94) (a 95) (a 96) (a 97) v1 ++ [])))) := by
  simp only [xW, rrW, List.append_assoc, List.append_nil]
/-- for copies: the state in the slot, the state now -/
theorem xW_c0 (G : GT) (a : Nat → Nat) (v : SVT) (mo ki : Nat → Nat) (pr df : Nat → Int) (co : Int32) (bi : Nat) (g9 : Nat → Int32) (lr : Nat) (bf : Nat → Int) (tn : Nat → Nat) (ln nx ct : Nat) (hv : Nat → SVT) (v0 : SVT) (k0 : Nat) (v1 : SVT) (k1 : Nat) :
    xW G a v mo ki pr df co bi g9 lr bf tn ln nx ct hv v0 k0 v1 k1 = xoW a ++ (stW G (a 1) (a 2) (a 3) (a 4) (a 5) (a 6) (a 7) (a 8) (a 9) v ++ ((mdW G a mo ki pr df co bi g9 lr bf tn ln ++ (hsW G a nx ct hv ++ s0W G a k0)) ++ (stW G (a 79) (a 80) (a 81) (a 82) (a 83) (a 84) (a 85) (a 86) (a 87) v0 ++ (s1W G a k1 ++ stW G (a 89) (a 90) (a 91) (a 92) (a 93) (a 94) (a 95) (a 96) (a 97) v1)))) := by
  simp only [xW, rrW, List.append_assoc]
theorem xW_c1 (G : GT) (a : Nat → Nat) (v : SVT) (mo ki : Nat → Nat) (pr df : Nat → Int) (co : Int32) (bi : Nat) (g9 : Nat → Int32) (lr : Nat) (bf : Nat → Int) (tn : Nat → Nat) (ln nx ct : Nat) (hv : Nat → SVT) (v0 : SVT) (k0 : Nat) (v1 : SVT) (k1 : Nat) :
    xW G a v mo ki pr df co bi g9 lr bf tn ln nx ct hv v0 k0 v1 k1 = xoW a ++ (stW G (a 1) (a 2) (a 3) (a 4) (a 5) (a 6) (a 7) (a 8) (a 9) v ++ ((mdW G a mo ki pr df co bi g9 lr bf tn ln ++ (hsW G a nx ct hv ++ (s0W G a k0 ++ (stW G (a 79) (a 80) (a 81) (a 82) (a 83) (a 84) (a 85) (a 86) (a 87) v0 ++ s1W G a k1)))) ++ (stW G (a 89) (a 90) (a 91) (a 92) (a 93) (a 94) (a 95) (a 96) (a 97) v1 ++ []))) := by
  simp only [xW, rrW, List.append_assoc, List.append_nil]
theorem va_P_swap {G : GT} {H : Heap} {w1 w2 : va_W} (h : PP G (w1 ++ w2) H) : PP G (w2 ++ w1) H := PP_sub (fun _ hq => List.mem_append.mpr (List.mem_append.mp hq).symm) h
section MYO
variable {p : Program} {l : Launch} {e : Env} {R : Room} {s : State} {m : MethodId} {args : Array Value} {below : List Frame} {meth : Method} {c : Code} {H : Heap} {locs : List Loc} {cells slots : Nat} {Q : State → Prop}
variable {cc : ByteArray} {pc : Nat} {ls : Array Slot} {rest : List Value} {A : Nat → Prop} {a : Nat} {G : GT} {H0 : Heap}
end MYO
