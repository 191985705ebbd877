/-! ===== the law's body: what every call stands on ===== -/
def LK (p : Program) (l : Launch) (s : State) (m : MethodId) (meth : Method) (c : Code) (bq L : Nat) (xs : Nat → Int32) (G : GT) : Prop :=
  p.tables.exec = Jvm.exec ∧ c.code = cL_law ∧ c.maxLocals = 7 ∧ s.vm.findClass RL = some m.cls ∧ (∀ w ∈ wsL_law, w.before #[Value.ref bq] s = true) ∧ va_X bq L xs s s.heap ∧ bq < s.heap.size ∧ CX G s ∧ gB G = s.heap.size ∧ l.stackTraces = false ∧ L ≤ 2560
theorem lw_fst {G : GT} {a : Nat → Nat} {oa : Nat} {v : SVT} {mo ki : Nat → Nat} {pr df : Nat → Int} {co : Int32} {bi : Nat} {g9 : Nat → Int32} {lr : Nat} {bf : Nat → Int} {tn : Nat → Nat} {ln nx ct : Nat} {hv : Nat → SVT} {v0 : SVT} {k0 : Nat} {v1 : SVT} {k1 : Nat} {of : Nat → Int64}
    {v' : SVT} {mo' ki' : Nat → Nat} {pr' df' : Nat → Int} {co' : Int32} {bi' : Nat} {g9' : Nat → Int32} {lr' : Nat} {bf' : Nat → Int} {tn' : Nat → Nat} {ln' nx' ct' : Nat} {hv' : Nat → SVT} {v0' : SVT} {k0' : Nat} {v1' : SVT} {k1' : Nat} {of' : Nat → Int64} :
    (xW G a v mo ki pr df co bi g9 lr bf tn ln nx ct hv v0 k0 v1 k1 ++ ([(oa, .inl (cL G, 1, .inr (.inl of)))] : va_W)).map Prod.fst = (xW G a v' mo' ki' pr' df' co' bi' g9' lr' bf' tn' ln' nx' ct' hv' v0' k0' v1' k1' ++ ([(oa, .inl (cL G, 1, .inr (.inl of')))] : va_W)).map Prod.fst := by
  unfold xW hsW mdW plW rrW s0W s1W
  rfl
theorem lg_self (x : Int64) : lg_cmp x x = nI 0 := by
  unfold lg_cmp
  rw [if_neg (fun h => by have := Int64.lt_iff_toInt_lt.mp h; omega), if_pos rfl]; rfl
section MYZ
variable {p : Program} {l : Launch} {e : Env} {R : Room} {s : State} {m : MethodId} {args : Array Value} {below : List Frame} {meth : Method} {c : Code} {H : Heap} {locs : List Loc} {cells slots : Nat} {Q : State → Prop}
variable {cc : ByteArray} {pc : Nat} {ls : Array Slot} {rest st0 : List Value} {a : Array Value} {A0 A1 : Nat → Prop} {H0 : Heap} {mc ms : Nat} {G : GT}
/-- a call with the last block of the world -/
theorem kSufI {S : Type} {post : Int32 → S → Prop} {w1 : S → va_W} {wc P : va_W} (hr : va_Run p l e R s m args below meth c H locs cells slots mc ms (F0 m pc ls st0) rest (qMi G post w1 wc H a) (va_A wc H.size)) (hP : PP G (P ++ wc) H) (hD : va_D A0 (P ++ wc)) (hS : va_S A0 H0 H locs) (hA : ∀ q, H0.size ≤ q → A0 q)
    (hf : ∀ u, (w1 u).map Prod.fst = wc.map Prod.fst)
    (kk : ∀ (r : Int32) (u : S) (H1 : Heap) (locs1 : List Loc), post r u → PP G (P ++ w1 u) H1 → va_D A0 (P ++ w1 u) → va_S A0 H0 H1 locs1 → W p l e R s m args below meth c H1 locs1 (cells + mc) (slots + ms) Q (F0 m (pc + 3) ls (.int r :: rest))) : W p l e R s m args below meth c H locs cells slots Q (F0 m pc ls st0) := by
  refine kFi (fun u => [(false, P, []), (true, wc, w1 u)]) [(false, P, []), (true, wc, wc)] hr hP hD hS hA (fun _ => rfl) (fun _ => rfl) (fun u b hb h => ?_) (fun q hq => ?_) (fun u q hq => ?_) (fun r u H1 locs1 hu hP1 hD1 hS1 => kk r u H1 locs1 hu hP1 hD1 hS1)
  · simp only [List.mem_cons, List.not_mem_nil, or_false] at hb
    rcases hb with rfl | rfl
    · cases h
    · exact hf u
  · simpa [bC] using hq
  · simpa [bC1] using hq
/-- the script read -/
theorem gScr {bq L : Nat} {xs : Nat → Int32} {i : Nat} {v : Int32} (hx : p.tables.exec = Jvm.exec) (hb : c.code = cc) (hX : va_X bq L xs s H0) (hbl : bq < H0.size) (hbA : ¬ A0 bq) (hS : va_S A0 H0 H locs) (hi : i < L) (hL : L ≤ 2560) (hv : xs i = v) (hdg : decode cc pc = .ok (.iaload, 1))
    (kk : W p l e R s m args below meth c H locs cells slots Q (F0 m (pc + 1) ls (.int v :: rest))) : W p l e R s m args below meth c H locs cells slots Q (F0 m pc ls (.int (nI i) :: .ref bq :: rest)) := by
  refine va_sld hx hb hX hbl hbA hS (vp_in_nI hi (by omega)) hdg ?_
  rw [nI_clamp (by omega), hv]
  exact kk
end MYZ
