/-! ===== one object of the class, as the law sees it ===== -/
abbrev HT : Type := Nat × Nat × (Nat → SVT)
abbrev JT : Type := ((Nat → Nat) × (Nat → Nat) × (Nat → Int) × (Nat → Int) × Int32 × Nat) × ((Nat → Int32) × Nat × (Nat → Int)) × ((Nat → Nat) × Nat) × HT × (SVT × Nat × SVT × Nat)
def oW (G : GT) (a : Nat → Nat) (v : SVT) (j : JT) : va_W := xW G a v j.1.1 j.1.2.1 j.1.2.2.1 j.1.2.2.2.1 j.1.2.2.2.2.1 j.1.2.2.2.2.2 j.2.1.1 j.2.1.2.1 j.2.1.2.2 j.2.2.1.1 j.2.2.1.2 j.2.2.2.1.1 j.2.2.2.1.2.1 j.2.2.2.1.2.2 j.2.2.2.2.1 j.2.2.2.2.2.1 j.2.2.2.2.2.2.1 j.2.2.2.2.2.2.2
abbrev jH (j : JT) : HT := j.2.2.2.1
def OKJ (j : JT) : Prop := M25 j.1.1 ∧ D15 j.1.2.2.2.1 ∧ (jH j).1 < 6 ∧ (jH j).2.1 ≤ 6
abbrev sD (v : SVT) : Nat → Int := v.1
abbrev sT (v : SVT) : Nat → Int := v.2.1
abbrev sG (v : SVT) : Nat → Int := v.2.2.1
abbrev sK (v : SVT) : Nat → Nat := v.2.2.2.1
abbrev sM (v : SVT) : Nat → Nat := v.2.2.2.2.1
abbrev sBu (v : SVT) : Nat := v.2.2.2.2.2.1
abbrev sKd (v : SVT) : Nat := v.2.2.2.2.2.2.1
abbrev sPi (v : SVT) : Nat := v.2.2.2.2.2.2.2.1
abbrev sLo (v : SVT) : Nat := v.2.2.2.2.2.2.2.2.1
abbrev sBi (v : SVT) : Nat := v.2.2.2.2.2.2.2.2.2
def OKS (v : SVT) : Prop := R15 (sD v) ∧ R15 (sT v) ∧ R15 (sG v) ∧ (∀ b, sK v b ≤ 2) ∧ sBu v ≤ 300 ∧ (1 ≤ sKd v ∧ sKd v ≤ 20)
def BITS (v : SVT) : Nat := if sPi v % sKd v = 0 then 264 else ABM (sD v) (sT v) (COM (sD v) (sT v) (sBu v)) 4
def COAR (v : SVT) : Int := if sPi v % sKd v = 0 then -1 else (COM (sD v) (sT v) (sBu v) : Int)
def rcH (h : HT) (v : SVT) : HT := ((h.1 + 1) % 6, min (h.2.1 + 1) 6, va_up h.2.2 h.1 v)
theorem oW_fst {G : GT} {a : Nat → Nat} {v v' : SVT} {j j' : JT} : (oW G a v j).map Prod.fst = (oW G a v' j').map Prod.fst := by
  unfold oW xW hsW mdW plW rrW s0W s1W
  rfl
theorem oW_now {G : GT} {H : Heap} {a : Nat → Nat} {v : SVT} {j : JT} (h : PP G (oW G a v j) H) : PP G ([(a 0, .inr (7, [.ref (a 1), .ref (a 10), .ref (a 16), .ref (a 18), .ref (a 20), .ref (a 22), .ref (a 78), .ref (a 88)]))] ++ stW G (a 1) (a 2) (a 3) (a 4) (a 5) (a 6) (a 7) (a 8) (a 9) v) H := xW_now h
theorem oW_obj {G : GT} {H : Heap} {a : Nat → Nat} {v : SVT} {j : JT} (h : PP G (oW G a v j) H) : PP G (xoW a) H := xW_obj h
theorem oW_his {G : GT} {H : Heap} {a : Nat → Nat} {v : SVT} {j : JT} (h : PP G (oW G a v j) H) : PP G [(a 0, .inr (7, [.ref (a 1), .ref (a 10), .ref (a 16), .ref (a 18), .ref (a 20), .ref (a 22), .ref (a 78), .ref (a 88)])), (a 22, .inr (2, [.ref (a 23), .int (nI (jH j).1), .int (nI (jH j).2.1)]))] H := xW_his h
/-! a contract with more room, over another world -/
theorem room_le {s : State} {pl : Platform} {r r' : Room} (hr : r.frames ≤ r'.frames ∧ r.locals ≤ r'.locals ∧ r.cells ≤ r'.cells ∧ r.slots ≤ r'.slots) (h : s.hasRoom pl r' = true) : s.hasRoom pl r = true := by
  obtain ⟨h1, h2, h3, h4⟩ := hr
  simp only [State.hasRoom, Bool.and_eq_true, decide_eq_true_eq] at h ⊢
  obtain ⟨⟨⟨⟨q1, q2, q3, q4, q5, q6⟩, q7⟩, q8⟩, q9⟩ := h
  exact ⟨⟨⟨⟨by omega, by omega, by omega, by omega, by omega, q6⟩, by omega⟩, by omega⟩, q9⟩
theorem metG {S S' : Type} {l : Launch} {G : GT} {y : MethodName} {W : List Cond} {rm rm' : Room} {Pc : Array Value → State → Prop} {H0 : Heap} {post : Int32 → S → Prop} {post' : Int32 → S' → Prop} {w1 : S → va_W} {w2 : S' → va_W} {wc ws : va_W} {mc ms mc' ms' : Nat}
    (hM : Met l y W rm Pc (qMi G post w1 wc H0) mc ms (va_A wc H0.size)) (hPc : ∀ a s, Pc a s → s.heap = H0) (hr : rm.frames ≤ rm'.frames ∧ rm.locals ≤ rm'.locals ∧ rm.cells ≤ rm'.cells ∧ rm.slots ≤ rm'.slots) (hm : mc ≤ mc' ∧ ms ≤ ms') (hA : ∀ q, va_A wc H0.size q → va_A ws H0.size q)
    (hW : ∀ (r : Int32) (u : S) (H1 : Heap), (∀ q : Nat, q < H0.size → ¬ va_A wc H0.size q → H1[q]? = H0[q]?) → post r u → PP G (w1 u) H1 → ∃ u' : S', post' r u' ∧ PP G (w2 u') H1) :
    Met l y W rm' Pc (qMi G post' w2 ws H0) mc' ms' (va_A ws H0.size) := by
  intro p e ha hc hk s m args below hf happ hP hK
  have happ2 : (headSpec W rm).appliesLoose y e.platform s = true := by
    obtain ⟨a1, a2, a3, a4, a5, a6, a7, a8⟩ := (Spec.appliesLoose_iff hf).mp happ
    exact (Spec.appliesLoose_iff hf).mpr ⟨a1, a2, a3, a4, a5, a6, room_le hr a7, a8⟩
  obtain ⟨n, o, h1, h2, h3, ⟨⟨r, u, e1, e2, e3⟩, hF⟩, L, ⟨g1, g2, g3⟩, hL⟩ := hM p e ha hc hk s m args below hf happ2 hP hK
  have hH : s.heap = H0 := hPc _ _ hP
  obtain ⟨u', f1, f2⟩ := hW r u _ (fun q hq hn => by have h9 := hF.2 q (by rw [hH]; exact hq) hn; rw [hH] at h9; exact h9) e2 e3
  obtain ⟨q1, q2, q3, q4, q5, q6⟩ := g3
  exact ⟨n, o, h1, h2, h3, ⟨⟨r, u', e1, f1, f2⟩, hF.1, fun q h5 h6 => hF.2 q h5 (fun z => h6 (hA q z))⟩, L, ⟨g1, g2, q1, q2, by omega, q4, by omega, q6⟩, fun q hq => hA _ (hL q hq)⟩
theorem pcG_heap {G : GT} {as : List Value} {H0 : Heap} : ∀ a s, pcG G as H0 a s → s.heap = H0 := fun _ _ h => h.2.1
theorem pcX_heap {G : GT} {as : List Value} {H0 : Heap} : ∀ a s, pcX G as H0 a s → s.heap = H0 := fun _ _ h => h.2.1
/-- the frame rule, for a contract -/
theorem metFr {S : Type} {l : Launch} {G : GT} {y : MethodName} {W : List Cond} {rm : Room} {Pc : Array Value → State → Prop} {H0 : Heap} {post : Int32 → S → Prop} {w1 : S → va_W} {wc P : va_W} {mc ms : Nat} (hP0 : PP G (wc ++ P) H0) (hB0 : va_D (lo G) (wc ++ P))
    (hM : Met l y W rm Pc (qMi G post w1 wc H0) mc ms (va_A wc H0.size)) (hPc : ∀ a s, Pc a s → s.heap = H0) :
    Met l y W rm Pc (qMi G post (fun u => w1 u ++ P) (wc ++ P) H0) mc ms (va_A (wc ++ P) H0.size) := by
  refine metG hM hPc ⟨Nat.le_refl _, Nat.le_refl _, Nat.le_refl _, Nat.le_refl _⟩ ⟨Nat.le_refl _, Nat.le_refl _⟩ (va_A_sub fun q h => List.mem_append_left _ h) (fun r u H1 hk hp h1 => ⟨u, hp, PP_app h1 (va_P_mem.mpr fun q hq => ?_)⟩)
  have h3 := va_P_mem.mp hP0 q (List.mem_append_right _ hq)
  refine h3.kept (hk q.1 h3.lt ?_)
  have hn := va_D_nodup hB0
  rw [List.map_append, List.nodup_append] at hn
  rintro (⟨k, e, he⟩ | hz)
  · exact hn.2.2 q.1 (List.mem_map.mpr ⟨(q.1, e), List.mem_of_getElem? he, rfl⟩) q.1 (List.mem_map.mpr ⟨q, hq, rfl⟩) rfl
  · exact absurd h3.lt (Nat.not_lt.mpr hz)
section OKK
variable {p : Program} {l : Launch} {e : Env} {R : Room} {s : State} {m : MethodId} {args : Array Value} {below : List Frame} {meth : Method} {c : Code} {H : Heap} {locs : List Loc} {cells slots : Nat} {Q : State → Prop}
variable {cc : ByteArray} {pc : Nat} {ls : Array Slot} {rest st0 : List Value} {a : Array Value} {A0 A1 : Nat → Prop} {H0 : Heap} {mc ms : Nat} {G : GT}
/-- a call with a block of the world -/
theorem kMidI {S : Type} {post : Int32 → S → Prop} {w1 : S → va_W} {wc P1 P2 : va_W} (hr : va_Run p l e R s m args below meth c H locs cells slots mc ms (F0 m pc ls st0) rest (qMi G post w1 wc H a) (va_A wc H.size)) (hP : PP G (P1 ++ (wc ++ P2)) H) (hD : va_D A0 (P1 ++ (wc ++ P2))) (hS : va_S A0 H0 H locs) (hA : ∀ q, H0.size ≤ q → A0 q)
    (hf : ∀ u, (w1 u).map Prod.fst = wc.map Prod.fst)
    (kk : ∀ (r : Int32) (u : S) (H1 : Heap) (locs1 : List Loc), post r u → PP G (P1 ++ (w1 u ++ P2)) H1 → va_D A0 (P1 ++ (w1 u ++ P2)) → va_S A0 H0 H1 locs1 → W p l e R s m args below meth c H1 locs1 (cells + mc) (slots + ms) Q (F0 m (pc + 3) ls (.int r :: rest))) : W p l e R s m args below meth c H locs cells slots Q (F0 m pc ls st0) := by
  refine kFi (fun u => [(false, P1, []), (true, wc, w1 u), (false, P2, [])]) [(false, P1, []), (true, wc, wc), (false, P2, [])] hr hP hD hS hA (fun _ => rfl) (fun _ => rfl) (fun u b hb h => ?_) (fun q hq => ?_) (fun u q hq => ?_) (fun r u H1 locs1 hu hP1 hD1 hS1 => kk r u H1 locs1 hu hP1 hD1 hS1)
  · simp only [List.mem_cons, List.not_mem_nil, or_false] at hb
    rcases hb with rfl | rfl | rfl
    · cases h
    · exact hf u
    · cases h
  · simpa [bC] using hq
  · simpa [bC1] using hq
/-- .. with two of them -/
theorem k2I {S : Type} {post : Int32 → S → Prop} {b1 b2 : S → va_W} {B1 B2 P1 P2 P3 : va_W} (hr : va_Run p l e R s m args below meth c H locs cells slots mc ms (F0 m pc ls st0) rest (qMi G post (fun u => b1 u ++ b2 u) (B1 ++ B2) H a) (va_A (B1 ++ B2) H.size)) (hP : PP G (P1 ++ (B1 ++ (P2 ++ (B2 ++ P3)))) H) (hD : va_D A0 (P1 ++ (B1 ++ (P2 ++ (B2 ++ P3))))) (hS : va_S A0 H0 H locs) (hA : ∀ q, H0.size ≤ q → A0 q)
    (hf1 : ∀ u, (b1 u).map Prod.fst = B1.map Prod.fst) (hf2 : ∀ u, (b2 u).map Prod.fst = B2.map Prod.fst)
    (kk : ∀ (r : Int32) (u : S) (H1 : Heap) (locs1 : List Loc), post r u → PP G (P1 ++ (b1 u ++ (P2 ++ (b2 u ++ P3)))) H1 → va_D A0 (P1 ++ (b1 u ++ (P2 ++ (b2 u ++ P3)))) → va_S A0 H0 H1 locs1 → W p l e R s m args below meth c H1 locs1 (cells + mc) (slots + ms) Q (F0 m (pc + 3) ls (.int r :: rest))) : W p l e R s m args below meth c H locs cells slots Q (F0 m pc ls st0) := by
  refine kFi (fun u => [(false, P1, []), (true, B1, b1 u), (false, P2, []), (true, B2, b2 u), (false, P3, [])]) [(false, P1, []), (true, B1, B1), (false, P2, []), (true, B2, B2), (false, P3, [])] hr hP hD hS hA (fun _ => rfl) (fun _ => rfl) (fun u b hb h => ?_) (fun q hq => ?_) (fun u q hq => ?_) (fun r u H1 locs1 hu hP1 hD1 hS1 => kk r u H1 locs1 hu hP1 hD1 hS1)
  · simp only [List.mem_cons, List.not_mem_nil, or_false] at hb
    rcases hb with rfl | rfl | rfl | rfl | rfl
    · cases h
    · exact hf1 u
    · cases h
    · exact hf2 u
    · cases h
  · simpa [bC] using hq
  · simpa [bC1] using hq
/-- the answer's row, behind a world: of ints -/
theorem gOutI {X : va_W} {oa : Nat} {f : Nat → Int32} {A : Nat → Prop} (hx : p.tables.exec = Jvm.exec) (hb : c.code = cc) (hK : va_K (gD G) vwCl (tyl G) s) (hP : PP G (X ++ [(oa, .inl (cI G, 1, .inl f))]) H) (hD : va_D A (X ++ [(oa, .inl (cI G, 1, .inl f))])) (hS : va_S A H0 H locs) {x : Int32} (hdg : decode cc pc = .ok (.iastore, 1))
    (kk : ∀ (H1 : Heap) (locs1 : List Loc), PP G (X ++ [(oa, .inl (cI G, 1, .inl (upd f 0 x)))]) H1 → va_D A (X ++ [(oa, .inl (cI G, 1, .inl (upd f 0 x)))]) → va_S A H0 H1 locs1 → W p l e R s m args below meth c H1 locs1 cells slots Q (F0 m (pc + 1) ls rest)) : W p l e R s m args below meth c H locs cells slots Q (F0 m pc ls (.int x :: .int (nI 0) :: .ref oa :: rest)) :=
  gIast (j := 0) (f' := upd f 0 x) hx hb hK (va_P_swap hP) (va_D_swap hD) hS 0 0 rfl rfl rfl (by decide) (by decide) rfl hdg (fun H1 locs1 hP1 hD1 hS1 => kk H1 locs1 (va_P_swap (w1 := [_]) hP1) (va_D_swap (w1 := [_]) hD1) hS1)
end OKK
